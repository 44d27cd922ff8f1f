theorem dX0_advanceWrit_0 : decode cX0_advanceWrit 0 = .ok (.aload_n 0, 1) := by decide +kernel
theorem dX0_advanceWrit_1 : decode cX0_advanceWrit 1 = .ok (.getfield 28, 3) := by decide +kernel
theorem dX0_advanceWrit_4 : decode cX0_advanceWrit 4 = .ok (.getfield 235, 3) := by decide +kernel
theorem dX0_advanceWrit_7 : decode cX0_advanceWrit 7 = .ok (.iload_n 1, 1) := by decide +kernel
theorem dX0_advanceWrit_8 : decode cX0_advanceWrit 8 = .ok (.iaload, 1) := by decide +kernel
theorem dX0_advanceWrit_9 : decode cX0_advanceWrit 9 = .ok (.istore_n 2, 1) := by decide +kernel
theorem dX0_advanceWrit_10 : decode cX0_advanceWrit 10 = .ok (.aload_n 0, 1) := by decide +kernel
theorem dX0_advanceWrit_11 : decode cX0_advanceWrit 11 = .ok (.getfield 21, 3) := by decide +kernel
theorem dX0_advanceWrit_14 : decode cX0_advanceWrit 14 = .ok (.getfield 188, 3) := by decide +kernel
theorem dX0_advanceWrit_17 : decode cX0_advanceWrit 17 = .ok (.iload_n 2, 1) := by decide +kernel
theorem dX0_advanceWrit_18 : decode cX0_advanceWrit 18 = .ok (.iaload, 1) := by decide +kernel
theorem dX0_advanceWrit_19 : decode cX0_advanceWrit 19 = .ok (.ifCond .eq 24, 3) := by decide +kernel
theorem dX0_advanceWrit_43 : decode cX0_advanceWrit 43 = .ok (.aload_n 0, 1) := by decide +kernel
theorem dX0_advanceWrit_44 : decode cX0_advanceWrit 44 = .ok (.getfield 28, 3) := by decide +kernel
theorem dX0_advanceWrit_47 : decode cX0_advanceWrit 47 = .ok (.getfield 151, 3) := by decide +kernel
theorem dX0_advanceWrit_50 : decode cX0_advanceWrit 50 = .ok (.iload_n 1, 1) := by decide +kernel
theorem dX0_advanceWrit_51 : decode cX0_advanceWrit 51 = .ok (.iconst 0, 1) := by decide +kernel
theorem dX0_advanceWrit_52 : decode cX0_advanceWrit 52 = .ok (.iastore, 1) := by decide +kernel
theorem dX0_advanceWrit_53 : decode cX0_advanceWrit 53 = .ok (.return_, 1) := by decide +kernel
theorem dX0_advanceWrit_22 : decode cX0_advanceWrit 22 = .ok (.aload_n 0, 1) := by decide +kernel
theorem dX0_advanceWrit_23 : decode cX0_advanceWrit 23 = .ok (.getfield 21, 3) := by decide +kernel
theorem dX0_advanceWrit_26 : decode cX0_advanceWrit 26 = .ok (.getfield 124, 3) := by decide +kernel
theorem dX0_advanceWrit_29 : decode cX0_advanceWrit 29 = .ok (.iload_n 2, 1) := by decide +kernel
theorem dX0_advanceWrit_30 : decode cX0_advanceWrit 30 = .ok (.iaload, 1) := by decide +kernel
theorem dX0_advanceWrit_31 : decode cX0_advanceWrit 31 = .ok (.aload_n 0, 1) := by decide +kernel
theorem dX0_advanceWrit_32 : decode cX0_advanceWrit 32 = .ok (.getfield 28, 3) := by decide +kernel
theorem dX0_advanceWrit_35 : decode cX0_advanceWrit 35 = .ok (.getfield 238, 3) := by decide +kernel
theorem dX0_advanceWrit_38 : decode cX0_advanceWrit 38 = .ok (.iload_n 1, 1) := by decide +kernel
theorem dX0_advanceWrit_39 : decode cX0_advanceWrit 39 = .ok (.iaload, 1) := by decide +kernel
theorem dX0_advanceWrit_40 : decode cX0_advanceWrit 40 = .ok (.if_icmp .eq 14, 3) := by decide +kernel
theorem dX0_advanceWrit_54 : decode cX0_advanceWrit 54 = .ok (.aload_n 0, 1) := by decide +kernel
theorem dX0_advanceWrit_55 : decode cX0_advanceWrit 55 = .ok (.getfield 28, 3) := by decide +kernel
theorem dX0_advanceWrit_58 : decode cX0_advanceWrit 58 = .ok (.getfield 239, 3) := by decide +kernel
theorem dX0_advanceWrit_61 : decode cX0_advanceWrit 61 = .ok (.iload_n 1, 1) := by decide +kernel
theorem dX0_advanceWrit_62 : decode cX0_advanceWrit 62 = .ok (.iaload, 1) := by decide +kernel
theorem dX0_advanceWrit_63 : decode cX0_advanceWrit 63 = .ok (.aload_n 0, 1) := by decide +kernel
theorem dX0_advanceWrit_64 : decode cX0_advanceWrit 64 = .ok (.getfield 93, 3) := by decide +kernel
theorem dX0_advanceWrit_67 : decode cX0_advanceWrit 67 = .ok (.if_icmp .eq 18, 3) := by decide +kernel
theorem dX0_advanceWrit_85 : decode cX0_advanceWrit 85 = .ok (.return_, 1) := by decide +kernel
theorem dX0_advanceWrit_70 : decode cX0_advanceWrit 70 = .ok (.aload_n 0, 1) := by decide +kernel
theorem dX0_advanceWrit_71 : decode cX0_advanceWrit 71 = .ok (.getfield 28, 3) := by decide +kernel
theorem dX0_advanceWrit_74 : decode cX0_advanceWrit 74 = .ok (.iload_n 2, 1) := by decide +kernel
theorem dX0_advanceWrit_75 : decode cX0_advanceWrit 75 = .ok (.aload_n 0, 1) := by decide +kernel
theorem dX0_advanceWrit_76 : decode cX0_advanceWrit 76 = .ok (.getfield 93, 3) := by decide +kernel
theorem dX0_advanceWrit_79 : decode cX0_advanceWrit 79 = .ok (.invokevirtual 242, 3) := by decide +kernel
theorem dX10_isGuarded_0 : decode cX10_isGuarded 0 = .ok (.iconst 0, 1) := by decide +kernel
theorem dX10_isGuarded_1 : decode cX10_isGuarded 1 = .ok (.istore_n 3, 1) := by decide +kernel
theorem dX10_isGuarded_2 : decode cX10_isGuarded 2 = .ok (.iload_n 3, 1) := by decide +kernel
theorem dX10_isGuarded_3 : decode cX10_isGuarded 3 = .ok (.aload_n 0, 1) := by decide +kernel
theorem dX10_isGuarded_4 : decode cX10_isGuarded 4 = .ok (.getfield 43, 3) := by decide +kernel
theorem dX10_isGuarded_7 : decode cX10_isGuarded 7 = .ok (.if_icmp .ge 41, 3) := by decide +kernel
theorem dX10_isGuarded_10 : decode cX10_isGuarded 10 = .ok (.aload_n 0, 1) := by decide +kernel
theorem dX10_isGuarded_11 : decode cX10_isGuarded 11 = .ok (.getfield 30, 3) := by decide +kernel
theorem dX10_isGuarded_14 : decode cX10_isGuarded 14 = .ok (.iload_n 3, 1) := by decide +kernel
theorem dX10_isGuarded_15 : decode cX10_isGuarded 15 = .ok (.iaload, 1) := by decide +kernel
theorem dX10_isGuarded_16 : decode cX10_isGuarded 16 = .ok (.iload_n 1, 1) := by decide +kernel
theorem dX10_isGuarded_17 : decode cX10_isGuarded 17 = .ok (.if_icmp .ne 25, 3) := by decide +kernel
theorem dX10_isGuarded_42 : decode cX10_isGuarded 42 = .ok (.iinc 3 1, 3) := by decide +kernel
theorem dX10_isGuarded_45 : decode cX10_isGuarded 45 = .ok (.goto (-43), 3) := by decide +kernel
theorem dX10_isGuarded_20 : decode cX10_isGuarded 20 = .ok (.iload_n 2, 1) := by decide +kernel
theorem dX10_isGuarded_21 : decode cX10_isGuarded 21 = .ok (.aload_n 0, 1) := by decide +kernel
theorem dX10_isGuarded_22 : decode cX10_isGuarded 22 = .ok (.getfield 33, 3) := by decide +kernel
theorem dX10_isGuarded_25 : decode cX10_isGuarded 25 = .ok (.iload_n 3, 1) := by decide +kernel
theorem dX10_isGuarded_26 : decode cX10_isGuarded 26 = .ok (.iaload, 1) := by decide +kernel
theorem dX10_isGuarded_27 : decode cX10_isGuarded 27 = .ok (.if_icmp .lt 15, 3) := by decide +kernel
theorem dX10_isGuarded_30 : decode cX10_isGuarded 30 = .ok (.iload_n 2, 1) := by decide +kernel
theorem dX10_isGuarded_31 : decode cX10_isGuarded 31 = .ok (.aload_n 0, 1) := by decide +kernel
theorem dX10_isGuarded_32 : decode cX10_isGuarded 32 = .ok (.getfield 36, 3) := by decide +kernel
theorem dX10_isGuarded_35 : decode cX10_isGuarded 35 = .ok (.iload_n 3, 1) := by decide +kernel
theorem dX10_isGuarded_36 : decode cX10_isGuarded 36 = .ok (.iaload, 1) := by decide +kernel
theorem dX10_isGuarded_37 : decode cX10_isGuarded 37 = .ok (.if_icmp .gt 5, 3) := by decide +kernel
theorem dX10_isGuarded_40 : decode cX10_isGuarded 40 = .ok (.iconst 1, 1) := by decide +kernel
theorem dX10_isGuarded_41 : decode cX10_isGuarded 41 = .ok (.ireturn, 1) := by decide +kernel
theorem dX10_isGuarded_48 : decode cX10_isGuarded 48 = .ok (.iconst 0, 1) := by decide +kernel
theorem dX10_isGuarded_49 : decode cX10_isGuarded 49 = .ok (.ireturn, 1) := by decide +kernel
theorem dX0_advanceWrit_82 : decode cX0_advanceWrit 82 = .ok (.ifCond .eq 4, 3) := by decide +kernel
theorem dX0_advanceWrit_86 : decode cX0_advanceWrit 86 = .ok (.aload_n 0, 1) := by decide +kernel
theorem dX0_advanceWrit_87 : decode cX0_advanceWrit 87 = .ok (.getfield 28, 3) := by decide +kernel
theorem dX0_advanceWrit_90 : decode cX0_advanceWrit 90 = .ok (.getfield 246, 3) := by decide +kernel
theorem dX0_advanceWrit_93 : decode cX0_advanceWrit 93 = .ok (.iload_n 1, 1) := by decide +kernel
theorem dX0_advanceWrit_94 : decode cX0_advanceWrit 94 = .ok (.dup2, 1) := by decide +kernel
theorem dX0_advanceWrit_95 : decode cX0_advanceWrit 95 = .ok (.iaload, 1) := by decide +kernel
theorem dX0_advanceWrit_96 : decode cX0_advanceWrit 96 = .ok (.iconst 1, 1) := by decide +kernel
theorem dX0_advanceWrit_97 : decode cX0_advanceWrit 97 = .ok (.isub, 1) := by decide +kernel
theorem dX0_advanceWrit_98 : decode cX0_advanceWrit 98 = .ok (.iastore, 1) := by decide +kernel
theorem dX0_advanceWrit_99 : decode cX0_advanceWrit 99 = .ok (.aload_n 0, 1) := by decide +kernel
theorem dX0_advanceWrit_100 : decode cX0_advanceWrit 100 = .ok (.getfield 28, 3) := by decide +kernel
theorem dX0_advanceWrit_103 : decode cX0_advanceWrit 103 = .ok (.getfield 246, 3) := by decide +kernel
theorem dX0_advanceWrit_106 : decode cX0_advanceWrit 106 = .ok (.iload_n 1, 1) := by decide +kernel
theorem dX0_advanceWrit_107 : decode cX0_advanceWrit 107 = .ok (.iaload, 1) := by decide +kernel
theorem dX0_advanceWrit_108 : decode cX0_advanceWrit 108 = .ok (.ifCond .le 4, 3) := by decide +kernel
theorem dX0_advanceWrit_112 : decode cX0_advanceWrit 112 = .ok (.aload_n 0, 1) := by decide +kernel
theorem dX0_advanceWrit_113 : decode cX0_advanceWrit 113 = .ok (.getfield 28, 3) := by decide +kernel
theorem dX0_advanceWrit_116 : decode cX0_advanceWrit 116 = .ok (.getfield 249, 3) := by decide +kernel
theorem dX0_advanceWrit_119 : decode cX0_advanceWrit 119 = .ok (.iload_n 1, 1) := by decide +kernel
theorem dX0_advanceWrit_120 : decode cX0_advanceWrit 120 = .ok (.dup2, 1) := by decide +kernel
theorem dX0_advanceWrit_121 : decode cX0_advanceWrit 121 = .ok (.iaload, 1) := by decide +kernel
theorem dX0_advanceWrit_122 : decode cX0_advanceWrit 122 = .ok (.iconst 1, 1) := by decide +kernel
theorem dX0_advanceWrit_123 : decode cX0_advanceWrit 123 = .ok (.iadd, 1) := by decide +kernel
theorem dX0_advanceWrit_124 : decode cX0_advanceWrit 124 = .ok (.iastore, 1) := by decide +kernel
theorem dX0_advanceWrit_125 : decode cX0_advanceWrit 125 = .ok (.aload_n 0, 1) := by decide +kernel
theorem dX0_advanceWrit_126 : decode cX0_advanceWrit 126 = .ok (.getfield 28, 3) := by decide +kernel
theorem dX0_advanceWrit_129 : decode cX0_advanceWrit 129 = .ok (.getfield 249, 3) := by decide +kernel
theorem dX0_advanceWrit_132 : decode cX0_advanceWrit 132 = .ok (.iload_n 1, 1) := by decide +kernel
theorem dX0_advanceWrit_133 : decode cX0_advanceWrit 133 = .ok (.iaload, 1) := by decide +kernel
theorem dX0_advanceWrit_134 : decode cX0_advanceWrit 134 = .ok (.iconst 3, 1) := by decide +kernel
theorem dX0_advanceWrit_135 : decode cX0_advanceWrit 135 = .ok (.if_icmp .le 30, 3) := by decide +kernel
theorem dX0_advanceWrit_165 : decode cX0_advanceWrit 165 = .ok (.aload_n 0, 1) := by decide +kernel
theorem dX0_advanceWrit_166 : decode cX0_advanceWrit 166 = .ok (.getfield 28, 3) := by decide +kernel
theorem dX0_advanceWrit_169 : decode cX0_advanceWrit 169 = .ok (.getfield 246, 3) := by decide +kernel
theorem dX0_advanceWrit_172 : decode cX0_advanceWrit 172 = .ok (.iload_n 1, 1) := by decide +kernel
theorem dX0_advanceWrit_173 : decode cX0_advanceWrit 173 = .ok (.aload_n 0, 1) := by decide +kernel
theorem dX0_advanceWrit_174 : decode cX0_advanceWrit 174 = .ok (.getfield 42, 3) := by decide +kernel
theorem dX0_advanceWrit_177 : decode cX0_advanceWrit 177 = .ok (.aload_n 0, 1) := by decide +kernel
theorem dX0_advanceWrit_178 : decode cX0_advanceWrit 178 = .ok (.getfield 28, 3) := by decide +kernel
theorem dX0_advanceWrit_181 : decode cX0_advanceWrit 181 = .ok (.getfield 249, 3) := by decide +kernel
theorem dX0_advanceWrit_184 : decode cX0_advanceWrit 184 = .ok (.iload_n 1, 1) := by decide +kernel
theorem dX0_advanceWrit_185 : decode cX0_advanceWrit 185 = .ok (.iaload, 1) := by decide +kernel
theorem dX0_advanceWrit_186 : decode cX0_advanceWrit 186 = .ok (.invokevirtual 228, 3) := by decide +kernel
theorem dX2_weeksOf_0 : decode cX2_weeksOf 0 = .ok (.iconst 4, 1) := by decide +kernel
theorem dX2_weeksOf_1 : decode cX2_weeksOf 1 = .ok (.istore_n 2, 1) := by decide +kernel
theorem dX2_weeksOf_2 : decode cX2_weeksOf 2 = .ok (.iconst 0, 1) := by decide +kernel
theorem dX2_weeksOf_3 : decode cX2_weeksOf 3 = .ok (.istore_n 3, 1) := by decide +kernel
theorem dX2_weeksOf_4 : decode cX2_weeksOf 4 = .ok (.iload_n 3, 1) := by decide +kernel
theorem dX2_weeksOf_5 : decode cX2_weeksOf 5 = .ok (.aload_n 0, 1) := by decide +kernel
theorem dX2_weeksOf_6 : decode cX2_weeksOf 6 = .ok (.getfield 24, 3) := by decide +kernel
theorem dX2_weeksOf_9 : decode cX2_weeksOf 9 = .ok (.if_icmp .ge 86, 3) := by decide +kernel
theorem dX2_weeksOf_12 : decode cX2_weeksOf 12 = .ok (.aload_n 0, 1) := by decide +kernel
theorem dX2_weeksOf_13 : decode cX2_weeksOf 13 = .ok (.getfield 11, 3) := by decide +kernel
theorem dX2_weeksOf_16 : decode cX2_weeksOf 16 = .ok (.iload_n 3, 1) := by decide +kernel
theorem dX2_weeksOf_17 : decode cX2_weeksOf 17 = .ok (.aaload, 1) := by decide +kernel
theorem dX2_weeksOf_18 : decode cX2_weeksOf 18 = .ok (.astore 4, 2) := by decide +kernel
theorem dX2_weeksOf_20 : decode cX2_weeksOf 20 = .ok (.iconst 0, 1) := by decide +kernel
theorem dX2_weeksOf_21 : decode cX2_weeksOf 21 = .ok (.istore 5, 2) := by decide +kernel
theorem dX2_weeksOf_23 : decode cX2_weeksOf 23 = .ok (.aload 4, 2) := by decide +kernel
theorem dX2_weeksOf_25 : decode cX2_weeksOf 25 = .ok (.ifnull 64, 3) := by decide +kernel
theorem dX2_weeksOf_89 : decode cX2_weeksOf 89 = .ok (.iinc 3 1, 3) := by decide +kernel
theorem dX2_weeksOf_92 : decode cX2_weeksOf 92 = .ok (.goto (-88), 3) := by decide +kernel
theorem dX2_weeksOf_28 : decode cX2_weeksOf 28 = .ok (.iload 5, 2) := by decide +kernel
theorem dX2_weeksOf_30 : decode cX2_weeksOf 30 = .ok (.aload 4, 2) := by decide +kernel
theorem dX2_weeksOf_32 : decode cX2_weeksOf 32 = .ok (.getfield 28, 3) := by decide +kernel
theorem dX2_weeksOf_35 : decode cX2_weeksOf 35 = .ok (.if_icmp .ge 54, 3) := by decide +kernel
theorem dX2_weeksOf_38 : decode cX2_weeksOf 38 = .ok (.aload 4, 2) := by decide +kernel
theorem dX2_weeksOf_40 : decode cX2_weeksOf 40 = .ok (.getfield 40, 3) := by decide +kernel
theorem dX2_weeksOf_43 : decode cX2_weeksOf 43 = .ok (.iload 5, 2) := by decide +kernel
theorem dX2_weeksOf_45 : decode cX2_weeksOf 45 = .ok (.iaload, 1) := by decide +kernel
theorem dX2_weeksOf_46 : decode cX2_weeksOf 46 = .ok (.sipush 258, 3) := by decide +kernel
theorem dX2_weeksOf_49 : decode cX2_weeksOf 49 = .ok (.if_icmp .ne 34, 3) := by decide +kernel
theorem dX2_weeksOf_52 : decode cX2_weeksOf 52 = .ok (.aload_n 0, 1) := by decide +kernel
theorem dX2_weeksOf_53 : decode cX2_weeksOf 53 = .ok (.iload_n 3, 1) := by decide +kernel
theorem dX2_weeksOf_54 : decode cX2_weeksOf 54 = .ok (.iload 5, 2) := by decide +kernel
theorem dX2_weeksOf_56 : decode cX2_weeksOf 56 = .ok (.invokevirtual 43, 3) := by decide +kernel
theorem dX2_isInForce_0 : decode cX2_isInForce 0 = .ok (.aload_n 0, 1) := by decide +kernel
theorem dX2_isInForce_1 : decode cX2_isInForce 1 = .ok (.getfield 17, 3) := by decide +kernel
theorem dX2_isInForce_4 : decode cX2_isInForce 4 = .ok (.iload_n 1, 1) := by decide +kernel
theorem dX2_isInForce_5 : decode cX2_isInForce 5 = .ok (.iaload, 1) := by decide +kernel
theorem dX2_isInForce_6 : decode cX2_isInForce 6 = .ok (.iload_n 2, 1) := by decide +kernel
theorem dX2_isInForce_7 : decode cX2_isInForce 7 = .ok (.ishr, 1) := by decide +kernel
theorem dX2_isInForce_8 : decode cX2_isInForce 8 = .ok (.iconst 1, 1) := by decide +kernel
theorem dX2_isInForce_9 : decode cX2_isInForce 9 = .ok (.iand, 1) := by decide +kernel
theorem dX2_isInForce_10 : decode cX2_isInForce 10 = .ok (.iconst 1, 1) := by decide +kernel
theorem dX2_isInForce_11 : decode cX2_isInForce 11 = .ok (.if_icmp .ne 7, 3) := by decide +kernel
theorem dX2_isInForce_18 : decode cX2_isInForce 18 = .ok (.iconst 0, 1) := by decide +kernel
theorem dX2_isInForce_14 : decode cX2_isInForce 14 = .ok (.iconst 1, 1) := by decide +kernel
theorem dX2_isInForce_15 : decode cX2_isInForce 15 = .ok (.goto 4, 3) := by decide +kernel
theorem dX2_isInForce_19 : decode cX2_isInForce 19 = .ok (.ireturn, 1) := by decide +kernel
theorem dX2_weeksOf_59 : decode cX2_weeksOf 59 = .ok (.ifCond .eq 24, 3) := by decide +kernel
theorem dX2_weeksOf_62 : decode cX2_weeksOf 62 = .ok (.aload 4, 2) := by decide +kernel
theorem dX2_weeksOf_64 : decode cX2_weeksOf 64 = .ok (.getfield 47, 3) := by decide +kernel
theorem dX2_weeksOf_67 : decode cX2_weeksOf 67 = .ok (.iload 5, 2) := by decide +kernel
theorem dX2_weeksOf_69 : decode cX2_weeksOf 69 = .ok (.iaload, 1) := by decide +kernel
theorem dX2_weeksOf_70 : decode cX2_weeksOf 70 = .ok (.iload_n 1, 1) := by decide +kernel
theorem dX2_weeksOf_71 : decode cX2_weeksOf 71 = .ok (.if_icmp .ne 12, 3) := by decide +kernel
theorem dX2_weeksOf_74 : decode cX2_weeksOf 74 = .ok (.aload 4, 2) := by decide +kernel
theorem dX2_weeksOf_76 : decode cX2_weeksOf 76 = .ok (.getfield 50, 3) := by decide +kernel
theorem dX2_weeksOf_79 : decode cX2_weeksOf 79 = .ok (.iload 5, 2) := by decide +kernel
theorem dX2_weeksOf_81 : decode cX2_weeksOf 81 = .ok (.iaload, 1) := by decide +kernel
theorem dX2_weeksOf_82 : decode cX2_weeksOf 82 = .ok (.istore_n 2, 1) := by decide +kernel
theorem dX2_weeksOf_83 : decode cX2_weeksOf 83 = .ok (.iinc 5 1, 3) := by decide +kernel
theorem dX2_weeksOf_86 : decode cX2_weeksOf 86 = .ok (.goto (-63), 3) := by decide +kernel
theorem dX2_weeksOf_95 : decode cX2_weeksOf 95 = .ok (.iload_n 2, 1) := by decide +kernel
theorem dX2_weeksOf_96 : decode cX2_weeksOf 96 = .ok (.ireturn, 1) := by decide +kernel
theorem dX0_advanceWrit_189 : decode cX0_advanceWrit 189 = .ok (.iastore, 1) := by decide +kernel
theorem dX0_advanceWrit_138 : decode cX0_advanceWrit 138 = .ok (.aload_n 0, 1) := by decide +kernel
theorem dX0_advanceWrit_139 : decode cX0_advanceWrit 139 = .ok (.getfield 28, 3) := by decide +kernel
theorem dX0_advanceWrit_142 : decode cX0_advanceWrit 142 = .ok (.getfield 151, 3) := by decide +kernel
theorem dX0_advanceWrit_145 : decode cX0_advanceWrit 145 = .ok (.iload_n 1, 1) := by decide +kernel
theorem dX0_advanceWrit_146 : decode cX0_advanceWrit 146 = .ok (.iconst 0, 1) := by decide +kernel
theorem dX0_advanceWrit_147 : decode cX0_advanceWrit 147 = .ok (.iastore, 1) := by decide +kernel
theorem dX0_advanceWrit_148 : decode cX0_advanceWrit 148 = .ok (.aload_n 0, 1) := by decide +kernel
theorem dX0_advanceWrit_149 : decode cX0_advanceWrit 149 = .ok (.iload_n 2, 1) := by decide +kernel
theorem dX0_advanceWrit_150 : decode cX0_advanceWrit 150 = .ok (.aload_n 0, 1) := by decide +kernel
theorem dX0_advanceWrit_151 : decode cX0_advanceWrit 151 = .ok (.getfield 28, 3) := by decide +kernel
theorem dX0_advanceWrit_154 : decode cX0_advanceWrit 154 = .ok (.getfield 238, 3) := by decide +kernel
theorem dX0_advanceWrit_157 : decode cX0_advanceWrit 157 = .ok (.iload_n 1, 1) := by decide +kernel
theorem dX0_advanceWrit_158 : decode cX0_advanceWrit 158 = .ok (.iaload, 1) := by decide +kernel
theorem dX0_advanceWrit_159 : decode cX0_advanceWrit 159 = .ok (.invokevirtual 252, 3) := by decide +kernel
theorem dX0_putOut_0 : decode cX0_putOut 0 = .ok (.aload_n 0, 1) := by decide +kernel
theorem dX0_putOut_1 : decode cX0_putOut 1 = .ok (.dup, 1) := by decide +kernel
theorem dX0_putOut_2 : decode cX0_putOut 2 = .ok (.getfield 100, 3) := by decide +kernel
theorem dX0_putOut_5 : decode cX0_putOut 5 = .ok (.iconst 1, 1) := by decide +kernel
theorem dX0_putOut_6 : decode cX0_putOut 6 = .ok (.iadd, 1) := by decide +kernel
theorem dX0_putOut_7 : decode cX0_putOut 7 = .ok (.putfield 100, 3) := by decide +kernel
theorem dX0_putOut_10 : decode cX0_putOut 10 = .ok (.aload_n 0, 1) := by decide +kernel
theorem dX0_putOut_11 : decode cX0_putOut 11 = .ok (.getfield 21, 3) := by decide +kernel
theorem dX0_putOut_14 : decode cX0_putOut 14 = .ok (.getfield 124, 3) := by decide +kernel
theorem dX0_putOut_17 : decode cX0_putOut 17 = .ok (.iload_n 1, 1) := by decide +kernel
theorem dX0_putOut_18 : decode cX0_putOut 18 = .ok (.iconst (-1), 1) := by decide +kernel
theorem dX0_putOut_19 : decode cX0_putOut 19 = .ok (.iastore, 1) := by decide +kernel
theorem dX0_putOut_20 : decode cX0_putOut 20 = .ok (.aload_n 0, 1) := by decide +kernel
theorem dX0_putOut_21 : decode cX0_putOut 21 = .ok (.getfield 21, 3) := by decide +kernel
theorem dX0_putOut_24 : decode cX0_putOut 24 = .ok (.getfield 127, 3) := by decide +kernel
theorem dX0_putOut_27 : decode cX0_putOut 27 = .ok (.iload_n 1, 1) := by decide +kernel
theorem dX0_putOut_28 : decode cX0_putOut 28 = .ok (.iconst 0, 1) := by decide +kernel
theorem dX0_putOut_29 : decode cX0_putOut 29 = .ok (.iastore, 1) := by decide +kernel
theorem dX0_putOut_30 : decode cX0_putOut 30 = .ok (.aload_n 0, 1) := by decide +kernel
theorem dX0_putOut_31 : decode cX0_putOut 31 = .ok (.getfield 21, 3) := by decide +kernel
theorem dX0_putOut_34 : decode cX0_putOut 34 = .ok (.getfield 256, 3) := by decide +kernel
theorem dX0_putOut_37 : decode cX0_putOut 37 = .ok (.iload_n 1, 1) := by decide +kernel
theorem dX0_putOut_38 : decode cX0_putOut 38 = .ok (.iconst 1, 1) := by decide +kernel
theorem dX0_putOut_39 : decode cX0_putOut 39 = .ok (.iastore, 1) := by decide +kernel
theorem dX0_putOut_40 : decode cX0_putOut 40 = .ok (.aload_n 0, 1) := by decide +kernel
theorem dX0_putOut_41 : decode cX0_putOut 41 = .ok (.getfield 12, 3) := by decide +kernel
theorem dX0_putOut_44 : decode cX0_putOut 44 = .ok (.getfield 182, 3) := by decide +kernel
theorem dX0_putOut_47 : decode cX0_putOut 47 = .ok (.iload_n 2, 1) := by decide +kernel
theorem dX0_putOut_48 : decode cX0_putOut 48 = .ok (.iaload, 1) := by decide +kernel
theorem dX0_putOut_49 : decode cX0_putOut 49 = .ok (.ifCond .ne 37, 3) := by decide +kernel
theorem dX0_putOut_52 : decode cX0_putOut 52 = .ok (.aload_n 0, 1) := by decide +kernel
theorem dX0_putOut_53 : decode cX0_putOut 53 = .ok (.getfield 21, 3) := by decide +kernel
theorem dX0_putOut_56 : decode cX0_putOut 56 = .ok (.iload_n 2, 1) := by decide +kernel
theorem dX0_putOut_57 : decode cX0_putOut 57 = .ok (.invokevirtual 259, 3) := by decide +kernel
theorem dX1_isHeldBy_0 : decode cX1_isHeldBy 0 = .ok (.iconst 0, 1) := by decide +kernel
theorem dX1_isHeldBy_1 : decode cX1_isHeldBy 1 = .ok (.istore_n 2, 1) := by decide +kernel
theorem dX1_isHeldBy_2 : decode cX1_isHeldBy 2 = .ok (.iload_n 2, 1) := by decide +kernel
theorem dX1_isHeldBy_3 : decode cX1_isHeldBy 3 = .ok (.aload_n 0, 1) := by decide +kernel
theorem dX1_isHeldBy_4 : decode cX1_isHeldBy 4 = .ok (.getfield 46, 3) := by decide +kernel
theorem dX1_isHeldBy_7 : decode cX1_isHeldBy 7 = .ok (.if_icmp .ge 21, 3) := by decide +kernel
theorem dX1_isHeldBy_10 : decode cX1_isHeldBy 10 = .ok (.aload_n 0, 1) := by decide +kernel
theorem dX1_isHeldBy_11 : decode cX1_isHeldBy 11 = .ok (.getfield 21, 3) := by decide +kernel
theorem dX1_isHeldBy_14 : decode cX1_isHeldBy 14 = .ok (.iload_n 2, 1) := by decide +kernel
theorem dX1_isHeldBy_15 : decode cX1_isHeldBy 15 = .ok (.iaload, 1) := by decide +kernel
theorem dX1_isHeldBy_16 : decode cX1_isHeldBy 16 = .ok (.iload_n 1, 1) := by decide +kernel
theorem dX1_isHeldBy_17 : decode cX1_isHeldBy 17 = .ok (.if_icmp .ne 5, 3) := by decide +kernel
theorem dX1_isHeldBy_22 : decode cX1_isHeldBy 22 = .ok (.iinc 2 1, 3) := by decide +kernel
theorem dX1_isHeldBy_25 : decode cX1_isHeldBy 25 = .ok (.goto (-23), 3) := by decide +kernel
theorem dX1_isHeldBy_20 : decode cX1_isHeldBy 20 = .ok (.iconst 1, 1) := by decide +kernel
theorem dX1_isHeldBy_21 : decode cX1_isHeldBy 21 = .ok (.ireturn, 1) := by decide +kernel
theorem dX1_isHeldBy_28 : decode cX1_isHeldBy 28 = .ok (.iconst 0, 1) := by decide +kernel
theorem dX1_isHeldBy_29 : decode cX1_isHeldBy 29 = .ok (.ireturn, 1) := by decide +kernel
theorem dX0_putOut_60 : decode cX0_putOut 60 = .ok (.ifCond .ne 26, 3) := by decide +kernel
theorem dX0_putOut_63 : decode cX0_putOut 63 = .ok (.aload_n 0, 1) := by decide +kernel
theorem dX0_putOut_64 : decode cX0_putOut 64 = .ok (.getfield 12, 3) := by decide +kernel
theorem dX0_putOut_67 : decode cX0_putOut 67 = .ok (.getfield 182, 3) := by decide +kernel
theorem dX0_putOut_70 : decode cX0_putOut 70 = .ok (.iload_n 2, 1) := by decide +kernel
theorem dX0_putOut_71 : decode cX0_putOut 71 = .ok (.iconst 1, 1) := by decide +kernel
theorem dX0_putOut_72 : decode cX0_putOut 72 = .ok (.iastore, 1) := by decide +kernel
theorem dX0_putOut_73 : decode cX0_putOut 73 = .ok (.aload_n 0, 1) := by decide +kernel
theorem dX0_putOut_74 : decode cX0_putOut 74 = .ok (.getfield 12, 3) := by decide +kernel
theorem dX0_putOut_77 : decode cX0_putOut 77 = .ok (.getfield 130, 3) := by decide +kernel
theorem dX0_putOut_80 : decode cX0_putOut 80 = .ok (.iload_n 2, 1) := by decide +kernel
theorem dX0_putOut_81 : decode cX0_putOut 81 = .ok (.aload_n 0, 1) := by decide +kernel
theorem dX0_putOut_82 : decode cX0_putOut 82 = .ok (.getfield 93, 3) := by decide +kernel
theorem dX0_putOut_85 : decode cX0_putOut 85 = .ok (.iastore, 1) := by decide +kernel
theorem dX0_putOut_86 : decode cX0_putOut 86 = .ok (.return_, 1) := by decide +kernel
theorem dX0_advanceWrit_162 : decode cX0_advanceWrit 162 = .ok (.goto 28, 3) := by decide +kernel
theorem dX0_advanceWrit_190 : decode cX0_advanceWrit 190 = .ok (.return_, 1) := by decide +kernel
theorem dX0_advanceWrit_111 : decode cX0_advanceWrit 111 = .ok (.return_, 1) := by decide +kernel
theorem dX0_anyHolds_0 : decode cX0_anyHolds 0 = .ok (.iconst 0, 1) := by decide +kernel
theorem dX0_anyHolds_1 : decode cX0_anyHolds 1 = .ok (.istore 4, 2) := by decide +kernel
theorem dX0_anyHolds_3 : decode cX0_anyHolds 3 = .ok (.iload 4, 2) := by decide +kernel
theorem dX0_anyHolds_5 : decode cX0_anyHolds 5 = .ok (.aload_n 0, 1) := by decide +kernel
theorem dX0_anyHolds_6 : decode cX0_anyHolds 6 = .ok (.getfield 42, 3) := by decide +kernel
theorem dX0_anyHolds_9 : decode cX0_anyHolds 9 = .ok (.getfield 286, 3) := by decide +kernel
theorem dX0_anyHolds_12 : decode cX0_anyHolds 12 = .ok (.if_icmp .ge 90, 3) := by decide +kernel
theorem dX0_anyHolds_15 : decode cX0_anyHolds 15 = .ok (.aload_n 0, 1) := by decide +kernel
theorem dX0_anyHolds_16 : decode cX0_anyHolds 16 = .ok (.getfield 42, 3) := by decide +kernel
theorem dX0_anyHolds_19 : decode cX0_anyHolds 19 = .ok (.getfield 287, 3) := by decide +kernel
theorem dX0_anyHolds_22 : decode cX0_anyHolds 22 = .ok (.iload 4, 2) := by decide +kernel
theorem dX0_anyHolds_24 : decode cX0_anyHolds 24 = .ok (.aaload, 1) := by decide +kernel
theorem dX0_anyHolds_25 : decode cX0_anyHolds 25 = .ok (.astore 5, 2) := by decide +kernel
theorem dX0_anyHolds_27 : decode cX0_anyHolds 27 = .ok (.iconst 0, 1) := by decide +kernel
theorem dX0_anyHolds_28 : decode cX0_anyHolds 28 = .ok (.istore 6, 2) := by decide +kernel
theorem dX0_anyHolds_30 : decode cX0_anyHolds 30 = .ok (.aload 5, 2) := by decide +kernel
theorem dX0_anyHolds_32 : decode cX0_anyHolds 32 = .ok (.ifnull 64, 3) := by decide +kernel
theorem dX0_anyHolds_96 : decode cX0_anyHolds 96 = .ok (.iinc 4 1, 3) := by decide +kernel
theorem dX0_anyHolds_99 : decode cX0_anyHolds 99 = .ok (.goto (-96), 3) := by decide +kernel
theorem dX0_anyHolds_35 : decode cX0_anyHolds 35 = .ok (.iload 6, 2) := by decide +kernel
theorem dX0_anyHolds_37 : decode cX0_anyHolds 37 = .ok (.aload 5, 2) := by decide +kernel
theorem dX0_anyHolds_39 : decode cX0_anyHolds 39 = .ok (.getfield 291, 3) := by decide +kernel
theorem dX0_anyHolds_42 : decode cX0_anyHolds 42 = .ok (.if_icmp .ge 54, 3) := by decide +kernel
theorem dX0_anyHolds_45 : decode cX0_anyHolds 45 = .ok (.aload 5, 2) := by decide +kernel
theorem dX0_anyHolds_47 : decode cX0_anyHolds 47 = .ok (.getfield 296, 3) := by decide +kernel
theorem dX0_anyHolds_50 : decode cX0_anyHolds 50 = .ok (.iload 6, 2) := by decide +kernel
theorem dX0_anyHolds_52 : decode cX0_anyHolds 52 = .ok (.iaload, 1) := by decide +kernel
theorem dX0_anyHolds_53 : decode cX0_anyHolds 53 = .ok (.iload_n 1, 1) := by decide +kernel
theorem dX0_anyHolds_54 : decode cX0_anyHolds 54 = .ok (.if_icmp .ne 36, 3) := by decide +kernel
theorem dX0_anyHolds_90 : decode cX0_anyHolds 90 = .ok (.iinc 6 1, 3) := by decide +kernel
theorem dX0_anyHolds_93 : decode cX0_anyHolds 93 = .ok (.goto (-63), 3) := by decide +kernel
theorem dX0_anyHolds_57 : decode cX0_anyHolds 57 = .ok (.aload_n 0, 1) := by decide +kernel
theorem dX0_anyHolds_58 : decode cX0_anyHolds 58 = .ok (.getfield 42, 3) := by decide +kernel
theorem dX0_anyHolds_61 : decode cX0_anyHolds 61 = .ok (.iload 4, 2) := by decide +kernel
theorem dX0_anyHolds_63 : decode cX0_anyHolds 63 = .ok (.iload 6, 2) := by decide +kernel
theorem dX0_anyHolds_65 : decode cX0_anyHolds 65 = .ok (.invokevirtual 299, 3) := by decide +kernel
theorem dX0_anyHolds_68 : decode cX0_anyHolds 68 = .ok (.ifCond .eq 22, 3) := by decide +kernel
theorem dX0_anyHolds_71 : decode cX0_anyHolds 71 = .ok (.aload_n 0, 1) := by decide +kernel
theorem dX0_anyHolds_72 : decode cX0_anyHolds 72 = .ok (.aload 5, 2) := by decide +kernel
theorem dX0_anyHolds_74 : decode cX0_anyHolds 74 = .ok (.iload 6, 2) := by decide +kernel
theorem dX0_anyHolds_76 : decode cX0_anyHolds 76 = .ok (.iload_n 2, 1) := by decide +kernel
theorem dX0_anyHolds_77 : decode cX0_anyHolds 77 = .ok (.iload_n 3, 1) := by decide +kernel
theorem dX0_anyHolds_78 : decode cX0_anyHolds 78 = .ok (.invokevirtual 302, 3) := by decide +kernel
theorem dX0_ask_0 : decode cX0_ask 0 = .ok (.iconst 0, 1) := by decide +kernel
theorem dX0_ask_1 : decode cX0_ask 1 = .ok (.istore 5, 2) := by decide +kernel
theorem dX0_ask_3 : decode cX0_ask 3 = .ok (.iconst 0, 1) := by decide +kernel
theorem dX0_ask_4 : decode cX0_ask 4 = .ok (.istore 6, 2) := by decide +kernel
theorem dX0_ask_6 : decode cX0_ask 6 = .ok (.aload_n 0, 1) := by decide +kernel
theorem dX0_ask_7 : decode cX0_ask 7 = .ok (.getfield 57, 3) := by decide +kernel
theorem dX0_ask_10 : decode cX0_ask 10 = .ok (.iconst 0, 1) := by decide +kernel
theorem dX0_ask_11 : decode cX0_ask 11 = .ok (.lconst 0, 1) := by decide +kernel
theorem dX0_ask_12 : decode cX0_ask 12 = .ok (.lastore, 1) := by decide +kernel
theorem dX0_ask_13 : decode cX0_ask 13 = .ok (.aload_n 1, 1) := by decide +kernel
theorem dX0_ask_14 : decode cX0_ask 14 = .ok (.getfield 314, 3) := by decide +kernel
theorem dX0_ask_17 : decode cX0_ask 17 = .ok (.iload_n 2, 1) := by decide +kernel
theorem dX0_ask_18 : decode cX0_ask 18 = .ok (.iaload, 1) := by decide +kernel
theorem dX0_ask_19 : decode cX0_ask 19 = .ok (.istore 7, 2) := by decide +kernel
theorem dX0_ask_21 : decode cX0_ask 21 = .ok (.iload 7, 2) := by decide +kernel
theorem dX0_ask_23 : decode cX0_ask 23 = .ok (.aload_n 1, 1) := by decide +kernel
theorem dX0_ask_24 : decode cX0_ask 24 = .ok (.getfield 317, 3) := by decide +kernel
theorem dX0_ask_27 : decode cX0_ask 27 = .ok (.iload_n 2, 1) := by decide +kernel
theorem dX0_ask_28 : decode cX0_ask 28 = .ok (.iaload, 1) := by decide +kernel
theorem dX0_ask_29 : decode cX0_ask 29 = .ok (.if_icmp .ge 291, 3) := by decide +kernel
theorem dX0_ask_32 : decode cX0_ask 32 = .ok (.iload 7, 2) := by decide +kernel
theorem dX0_ask_34 : decode cX0_ask 34 = .ok (.iload 6, 2) := by decide +kernel
theorem dX0_ask_36 : decode cX0_ask 36 = .ok (.if_icmp .ge 6, 3) := by decide +kernel
theorem dX0_ask_42 : decode cX0_ask 42 = .ok (.aload_n 1, 1) := by decide +kernel
theorem dX0_ask_43 : decode cX0_ask 43 = .ok (.getfield 320, 3) := by decide +kernel
theorem dX0_ask_46 : decode cX0_ask 46 = .ok (.iload 7, 2) := by decide +kernel
theorem dX0_ask_48 : decode cX0_ask 48 = .ok (.iaload, 1) := by decide +kernel
theorem dX0_ask_49 : decode cX0_ask 49 = .ok (.istore 8, 2) := by decide +kernel
theorem dX0_ask_51 : decode cX0_ask 51 = .ok (.iload 8, 2) := by decide +kernel
theorem dX0_ask_53 : decode cX0_ask 53 = .ok (.sipush 301, 3) := by decide +kernel
theorem dX0_ask_56 : decode cX0_ask 56 = .ok (.if_icmp .eq 19, 3) := by decide +kernel
theorem dX0_ask_75 : decode cX0_ask 75 = .ok (.iload 5, 2) := by decide +kernel
theorem dX0_ask_77 : decode cX0_ask 77 = .ok (.bipush 64, 2) := by decide +kernel
theorem dX0_ask_79 : decode cX0_ask 79 = .ok (.if_icmp .lt 7, 3) := by decide +kernel
theorem dX0_ask_86 : decode cX0_ask 86 = .ok (.aload_n 0, 1) := by decide +kernel
theorem dX0_ask_87 : decode cX0_ask 87 = .ok (.getfield 57, 3) := by decide +kernel
theorem dX0_ask_90 : decode cX0_ask 90 = .ok (.iload 5, 2) := by decide +kernel
theorem dX0_ask_92 : decode cX0_ask 92 = .ok (.iload 8, 2) := by decide +kernel
theorem dX0_ask_94 : decode cX0_ask 94 = .ok (.sipush 301, 3) := by decide +kernel
theorem dX0_ask_97 : decode cX0_ask 97 = .ok (.if_icmp .ne 14, 3) := by decide +kernel
theorem dX0_ask_100 : decode cX0_ask 100 = .ok (.aload_n 1, 1) := by decide +kernel
theorem dX0_ask_101 : decode cX0_ask 101 = .ok (.getfield 323, 3) := by decide +kernel
theorem dX0_ask_104 : decode cX0_ask 104 = .ok (.iload 7, 2) := by decide +kernel
theorem dX0_ask_106 : decode cX0_ask 106 = .ok (.iaload, 1) := by decide +kernel
theorem dX0_ask_107 : decode cX0_ask 107 = .ok (.i2l, 1) := by decide +kernel
theorem dX0_ask_108 : decode cX0_ask 108 = .ok (.goto 13, 3) := by decide +kernel
theorem dX0_ask_121 : decode cX0_ask 121 = .ok (.lastore, 1) := by decide +kernel
theorem dX0_ask_122 : decode cX0_ask 122 = .ok (.iinc 5 1, 3) := by decide +kernel
theorem dX0_ask_125 : decode cX0_ask 125 = .ok (.goto 189, 3) := by decide +kernel
theorem dX0_ask_314 : decode cX0_ask 314 = .ok (.iinc 7 1, 3) := by decide +kernel
theorem dX0_ask_317 : decode cX0_ask 317 = .ok (.goto (-296), 3) := by decide +kernel
theorem dX0_ask_59 : decode cX0_ask 59 = .ok (.iload 8, 2) := by decide +kernel
theorem dX0_ask_61 : decode cX0_ask 61 = .ok (.sipush 268, 3) := by decide +kernel
theorem dX0_ask_64 : decode cX0_ask 64 = .ok (.if_icmp .lt 64, 3) := by decide +kernel
theorem dX0_ask_128 : decode cX0_ask 128 = .ok (.iload 5, 2) := by decide +kernel
theorem dX0_ask_130 : decode cX0_ask 130 = .ok (.iconst 1, 1) := by decide +kernel
theorem dX0_ask_131 : decode cX0_ask 131 = .ok (.if_icmp .ge 7, 3) := by decide +kernel
theorem dX0_ask_134 : decode cX0_ask 134 = .ok (.ldc2_w 306, 3) := by decide +kernel
theorem dX0_ask_137 : decode cX0_ask 137 = .ok (.lreturn, 1) := by decide +kernel
theorem dX0_ask_67 : decode cX0_ask 67 = .ok (.iload 8, 2) := by decide +kernel
theorem dX0_ask_69 : decode cX0_ask 69 = .ok (.sipush 282, 3) := by decide +kernel
theorem dX0_ask_72 : decode cX0_ask 72 = .ok (.if_icmp .gt 56, 3) := by decide +kernel
theorem dX0_ask_111 : decode cX0_ask 111 = .ok (.aload_n 0, 1) := by decide +kernel
theorem dX0_ask_112 : decode cX0_ask 112 = .ok (.iload 8, 2) := by decide +kernel
theorem dX0_ask_114 : decode cX0_ask 114 = .ok (.iload_n 3, 1) := by decide +kernel
theorem dX0_ask_115 : decode cX0_ask 115 = .ok (.iload 4, 2) := by decide +kernel
theorem dX0_ask_117 : decode cX0_ask 117 = .ok (.invokevirtual 326, 3) := by decide +kernel
theorem dX0_wordOf_0 : decode cX0_wordOf 0 = .ok (.iload_n 1, 1) := by decide +kernel
theorem dX0_wordOf_1 : decode cX0_wordOf 1 = .ok (.sipush 276, 3) := by decide +kernel
theorem dX0_wordOf_4 : decode cX0_wordOf 4 = .ok (.if_icmp .gt 17, 3) := by decide +kernel
theorem dX0_wordOf_21 : decode cX0_wordOf 21 = .ok (.iload_n 1, 1) := by decide +kernel
theorem dX0_wordOf_22 : decode cX0_wordOf 22 = .ok (.sipush 280, 3) := by decide +kernel
theorem dX0_wordOf_25 : decode cX0_wordOf 25 = .ok (.if_icmp .gt 16, 3) := by decide +kernel
theorem dX0_wordOf_41 : decode cX0_wordOf 41 = .ok (.iload_n 1, 1) := by decide +kernel
theorem dX0_wordOf_42 : decode cX0_wordOf 42 = .ok (.tableswitch 236 268 282 #[124, 141, 160, 170, 187, 197, 207, 217, 227, 74, 84, 94, 104, 114, 119], 74) := by decide +kernel
theorem dX0_wordOf_156 : decode cX0_wordOf 156 = .ok (.aload_n 0, 1) := by decide +kernel
theorem dX0_wordOf_157 : decode cX0_wordOf 157 = .ok (.getfield 93, 3) := by decide +kernel
theorem dX0_wordOf_160 : decode cX0_wordOf 160 = .ok (.ireturn, 1) := by decide +kernel
theorem dX0_wordOf_161 : decode cX0_wordOf 161 = .ok (.aload_n 0, 1) := by decide +kernel
theorem dX0_wordOf_162 : decode cX0_wordOf 162 = .ok (.getfield 121, 3) := by decide +kernel
theorem dX0_wordOf_165 : decode cX0_wordOf 165 = .ok (.ireturn, 1) := by decide +kernel
theorem dX0_wordOf_278 : decode cX0_wordOf 278 = .ok (.iconst 0, 1) := by decide +kernel
theorem dX0_wordOf_279 : decode cX0_wordOf 279 = .ok (.ireturn, 1) := by decide +kernel
theorem dX0_wordOf_28 : decode cX0_wordOf 28 = .ok (.aload_n 0, 1) := by decide +kernel
theorem dX0_wordOf_29 : decode cX0_wordOf 29 = .ok (.getfield 21, 3) := by decide +kernel
theorem dX0_wordOf_32 : decode cX0_wordOf 32 = .ok (.iload_n 3, 1) := by decide +kernel
theorem dX0_wordOf_33 : decode cX0_wordOf 33 = .ok (.invokevirtual 341, 3) := by decide +kernel
theorem dX1_has_0 : decode cX1_has 0 = .ok (.iload_n 1, 1) := by decide +kernel
theorem dX1_has_1 : decode cX1_has 1 = .ok (.ifCond .lt 15, 3) := by decide +kernel
theorem dX1_has_16 : decode cX1_has 16 = .ok (.iconst 0, 1) := by decide +kernel
theorem dX1_has_17 : decode cX1_has 17 = .ok (.ireturn, 1) := by decide +kernel
theorem dX1_has_4 : decode cX1_has 4 = .ok (.iload_n 1, 1) := by decide +kernel
theorem dX1_has_5 : decode cX1_has 5 = .ok (.aload_n 0, 1) := by decide +kernel
theorem dX1_has_6 : decode cX1_has 6 = .ok (.getfield 46, 3) := by decide +kernel
theorem dX1_has_9 : decode cX1_has 9 = .ok (.if_icmp .ge 7, 3) := by decide +kernel
theorem dX1_has_12 : decode cX1_has 12 = .ok (.iconst 1, 1) := by decide +kernel
theorem dX1_has_13 : decode cX1_has 13 = .ok (.goto 4, 3) := by decide +kernel
theorem dX0_wordOf_36 : decode cX0_wordOf 36 = .ok (.ifCond .ne 5, 3) := by decide +kernel
theorem dX0_wordOf_116 : decode cX0_wordOf 116 = .ok (.aload_n 0, 1) := by decide +kernel
theorem dX0_wordOf_117 : decode cX0_wordOf 117 = .ok (.getfield 21, 3) := by decide +kernel
theorem dX0_wordOf_120 : decode cX0_wordOf 120 = .ok (.getfield 172, 3) := by decide +kernel
theorem dX0_wordOf_123 : decode cX0_wordOf 123 = .ok (.iload_n 3, 1) := by decide +kernel
theorem dX0_wordOf_124 : decode cX0_wordOf 124 = .ok (.iaload, 1) := by decide +kernel
theorem dX0_wordOf_125 : decode cX0_wordOf 125 = .ok (.ireturn, 1) := by decide +kernel
theorem dX0_wordOf_126 : decode cX0_wordOf 126 = .ok (.aload_n 0, 1) := by decide +kernel
theorem dX0_wordOf_127 : decode cX0_wordOf 127 = .ok (.getfield 21, 3) := by decide +kernel
theorem dX0_wordOf_130 : decode cX0_wordOf 130 = .ok (.getfield 342, 3) := by decide +kernel
theorem dX0_wordOf_133 : decode cX0_wordOf 133 = .ok (.iload_n 3, 1) := by decide +kernel
theorem dX0_wordOf_134 : decode cX0_wordOf 134 = .ok (.iaload, 1) := by decide +kernel
theorem dX0_wordOf_135 : decode cX0_wordOf 135 = .ok (.ireturn, 1) := by decide +kernel
theorem dX0_wordOf_136 : decode cX0_wordOf 136 = .ok (.aload_n 0, 1) := by decide +kernel
theorem dX0_wordOf_137 : decode cX0_wordOf 137 = .ok (.getfield 21, 3) := by decide +kernel
theorem dX0_wordOf_140 : decode cX0_wordOf 140 = .ok (.getfield 188, 3) := by decide +kernel
theorem dX0_wordOf_143 : decode cX0_wordOf 143 = .ok (.iload_n 3, 1) := by decide +kernel
theorem dX0_wordOf_144 : decode cX0_wordOf 144 = .ok (.iaload, 1) := by decide +kernel
theorem dX0_wordOf_145 : decode cX0_wordOf 145 = .ok (.ireturn, 1) := by decide +kernel
theorem dX0_wordOf_146 : decode cX0_wordOf 146 = .ok (.aload_n 0, 1) := by decide +kernel
theorem dX0_wordOf_147 : decode cX0_wordOf 147 = .ok (.getfield 21, 3) := by decide +kernel
theorem dX0_wordOf_150 : decode cX0_wordOf 150 = .ok (.getfield 204, 3) := by decide +kernel
theorem dX0_wordOf_153 : decode cX0_wordOf 153 = .ok (.iload_n 3, 1) := by decide +kernel
theorem dX0_wordOf_154 : decode cX0_wordOf 154 = .ok (.iaload, 1) := by decide +kernel
theorem dX0_wordOf_155 : decode cX0_wordOf 155 = .ok (.ireturn, 1) := by decide +kernel
theorem dX0_wordOf_39 : decode cX0_wordOf 39 = .ok (.iconst 0, 1) := by decide +kernel
theorem dX0_wordOf_40 : decode cX0_wordOf 40 = .ok (.ireturn, 1) := by decide +kernel
theorem dX0_wordOf_7 : decode cX0_wordOf 7 = .ok (.aload_n 0, 1) := by decide +kernel
theorem dX0_wordOf_8 : decode cX0_wordOf 8 = .ok (.getfield 12, 3) := by decide +kernel
theorem dX0_wordOf_11 : decode cX0_wordOf 11 = .ok (.iload_n 2, 1) := by decide +kernel
theorem dX0_wordOf_12 : decode cX0_wordOf 12 = .ok (.invokevirtual 338, 3) := by decide +kernel
theorem dX4_has_0 : decode cX4_has 0 = .ok (.iload_n 1, 1) := by decide +kernel
theorem dX4_has_1 : decode cX4_has 1 = .ok (.ifCond .lt 15, 3) := by decide +kernel
theorem dX4_has_16 : decode cX4_has 16 = .ok (.iconst 0, 1) := by decide +kernel
theorem dX4_has_17 : decode cX4_has 17 = .ok (.ireturn, 1) := by decide +kernel
theorem dX4_has_4 : decode cX4_has 4 = .ok (.iload_n 1, 1) := by decide +kernel
theorem dX4_has_5 : decode cX4_has 5 = .ok (.aload_n 0, 1) := by decide +kernel
theorem dX4_has_6 : decode cX4_has 6 = .ok (.getfield 39, 3) := by decide +kernel
theorem dX4_has_9 : decode cX4_has 9 = .ok (.if_icmp .ge 7, 3) := by decide +kernel
theorem dX4_has_12 : decode cX4_has 12 = .ok (.iconst 1, 1) := by decide +kernel
theorem dX4_has_13 : decode cX4_has 13 = .ok (.goto 4, 3) := by decide +kernel
theorem dX0_wordOf_15 : decode cX0_wordOf 15 = .ok (.ifCond .ne 26, 3) := by decide +kernel
theorem dX0_wordOf_166 : decode cX0_wordOf 166 = .ok (.aload_n 0, 1) := by decide +kernel
theorem dX0_wordOf_167 : decode cX0_wordOf 167 = .ok (.getfield 21, 3) := by decide +kernel
theorem dX0_wordOf_170 : decode cX0_wordOf 170 = .ok (.iload_n 2, 1) := by decide +kernel
theorem dX0_wordOf_171 : decode cX0_wordOf 171 = .ok (.invokevirtual 259, 3) := by decide +kernel
theorem dX0_wordOf_174 : decode cX0_wordOf 174 = .ok (.ifCond .eq 7, 3) := by decide +kernel
theorem dX0_wordOf_181 : decode cX0_wordOf 181 = .ok (.iconst 0, 1) := by decide +kernel
theorem dX0_wordOf_177 : decode cX0_wordOf 177 = .ok (.iconst 1, 1) := by decide +kernel
theorem dX0_wordOf_178 : decode cX0_wordOf 178 = .ok (.goto 4, 3) := by decide +kernel
theorem dX0_wordOf_182 : decode cX0_wordOf 182 = .ok (.ireturn, 1) := by decide +kernel
theorem dX0_wordOf_183 : decode cX0_wordOf 183 = .ok (.aload_n 0, 1) := by decide +kernel
theorem dX0_wordOf_184 : decode cX0_wordOf 184 = .ok (.getfield 12, 3) := by decide +kernel
theorem dX0_wordOf_187 : decode cX0_wordOf 187 = .ok (.getfield 130, 3) := by decide +kernel
theorem dX0_wordOf_190 : decode cX0_wordOf 190 = .ok (.iload_n 2, 1) := by decide +kernel
theorem dX0_wordOf_191 : decode cX0_wordOf 191 = .ok (.iaload, 1) := by decide +kernel
theorem dX0_wordOf_192 : decode cX0_wordOf 192 = .ok (.iconst (-1), 1) := by decide +kernel
theorem dX0_wordOf_193 : decode cX0_wordOf 193 = .ok (.if_icmp .ne 7, 3) := by decide +kernel
theorem dX0_wordOf_200 : decode cX0_wordOf 200 = .ok (.iconst 1, 1) := by decide +kernel
theorem dX0_wordOf_196 : decode cX0_wordOf 196 = .ok (.iconst 0, 1) := by decide +kernel
theorem dX0_wordOf_197 : decode cX0_wordOf 197 = .ok (.goto 4, 3) := by decide +kernel
theorem dX0_wordOf_201 : decode cX0_wordOf 201 = .ok (.ireturn, 1) := by decide +kernel
theorem dX0_wordOf_202 : decode cX0_wordOf 202 = .ok (.aload_n 0, 1) := by decide +kernel
theorem dX0_wordOf_203 : decode cX0_wordOf 203 = .ok (.getfield 12, 3) := by decide +kernel
theorem dX0_wordOf_206 : decode cX0_wordOf 206 = .ok (.getfield 277, 3) := by decide +kernel
theorem dX0_wordOf_209 : decode cX0_wordOf 209 = .ok (.iload_n 2, 1) := by decide +kernel
theorem dX0_wordOf_210 : decode cX0_wordOf 210 = .ok (.iaload, 1) := by decide +kernel
theorem dX0_wordOf_211 : decode cX0_wordOf 211 = .ok (.ireturn, 1) := by decide +kernel
theorem dX0_wordOf_212 : decode cX0_wordOf 212 = .ok (.aload_n 0, 1) := by decide +kernel
theorem dX0_wordOf_213 : decode cX0_wordOf 213 = .ok (.getfield 21, 3) := by decide +kernel
theorem dX0_wordOf_216 : decode cX0_wordOf 216 = .ok (.iload_n 2, 1) := by decide +kernel
theorem dX0_wordOf_217 : decode cX0_wordOf 217 = .ok (.invokevirtual 345, 3) := by decide +kernel
theorem dX1_isGrabbedBy_0 : decode cX1_isGrabbedBy 0 = .ok (.iconst 0, 1) := by decide +kernel
theorem dX1_isGrabbedBy_1 : decode cX1_isGrabbedBy 1 = .ok (.istore_n 2, 1) := by decide +kernel
theorem dX1_isGrabbedBy_2 : decode cX1_isGrabbedBy 2 = .ok (.iload_n 2, 1) := by decide +kernel
theorem dX1_isGrabbedBy_3 : decode cX1_isGrabbedBy 3 = .ok (.aload_n 0, 1) := by decide +kernel
theorem dX1_isGrabbedBy_4 : decode cX1_isGrabbedBy 4 = .ok (.getfield 46, 3) := by decide +kernel
theorem dX1_isGrabbedBy_7 : decode cX1_isGrabbedBy 7 = .ok (.if_icmp .ge 31, 3) := by decide +kernel
theorem dX1_isGrabbedBy_10 : decode cX1_isGrabbedBy 10 = .ok (.aload_n 0, 1) := by decide +kernel
theorem dX1_isGrabbedBy_11 : decode cX1_isGrabbedBy 11 = .ok (.getfield 21, 3) := by decide +kernel
theorem dX1_isGrabbedBy_14 : decode cX1_isGrabbedBy 14 = .ok (.iload_n 2, 1) := by decide +kernel
theorem dX1_isGrabbedBy_15 : decode cX1_isGrabbedBy 15 = .ok (.iaload, 1) := by decide +kernel
theorem dX1_isGrabbedBy_16 : decode cX1_isGrabbedBy 16 = .ok (.iload_n 1, 1) := by decide +kernel
theorem dX1_isGrabbedBy_17 : decode cX1_isGrabbedBy 17 = .ok (.if_icmp .ne 15, 3) := by decide +kernel
theorem dX1_isGrabbedBy_32 : decode cX1_isGrabbedBy 32 = .ok (.iinc 2 1, 3) := by decide +kernel
theorem dX1_isGrabbedBy_35 : decode cX1_isGrabbedBy 35 = .ok (.goto (-33), 3) := by decide +kernel
theorem dX1_isGrabbedBy_20 : decode cX1_isGrabbedBy 20 = .ok (.aload_n 0, 1) := by decide +kernel
theorem dX1_isGrabbedBy_21 : decode cX1_isGrabbedBy 21 = .ok (.getfield 27, 3) := by decide +kernel
theorem dX1_isGrabbedBy_24 : decode cX1_isGrabbedBy 24 = .ok (.iload_n 2, 1) := by decide +kernel
theorem dX1_isGrabbedBy_25 : decode cX1_isGrabbedBy 25 = .ok (.iaload, 1) := by decide +kernel
theorem dX1_isGrabbedBy_26 : decode cX1_isGrabbedBy 26 = .ok (.iconst 1, 1) := by decide +kernel
theorem dX1_isGrabbedBy_27 : decode cX1_isGrabbedBy 27 = .ok (.if_icmp .ne 5, 3) := by decide +kernel
theorem dX1_isGrabbedBy_30 : decode cX1_isGrabbedBy 30 = .ok (.iconst 1, 1) := by decide +kernel
theorem dX1_isGrabbedBy_31 : decode cX1_isGrabbedBy 31 = .ok (.ireturn, 1) := by decide +kernel
theorem dX1_isGrabbedBy_38 : decode cX1_isGrabbedBy 38 = .ok (.iconst 0, 1) := by decide +kernel
theorem dX1_isGrabbedBy_39 : decode cX1_isGrabbedBy 39 = .ok (.ireturn, 1) := by decide +kernel
theorem dX0_wordOf_220 : decode cX0_wordOf 220 = .ok (.ifCond .eq 7, 3) := by decide +kernel
theorem dX0_wordOf_227 : decode cX0_wordOf 227 = .ok (.iconst 0, 1) := by decide +kernel
theorem dX0_wordOf_223 : decode cX0_wordOf 223 = .ok (.iconst 1, 1) := by decide +kernel
theorem dX0_wordOf_224 : decode cX0_wordOf 224 = .ok (.goto 4, 3) := by decide +kernel
theorem dX0_wordOf_228 : decode cX0_wordOf 228 = .ok (.ireturn, 1) := by decide +kernel
theorem dX0_wordOf_229 : decode cX0_wordOf 229 = .ok (.aload_n 0, 1) := by decide +kernel
theorem dX0_wordOf_230 : decode cX0_wordOf 230 = .ok (.getfield 12, 3) := by decide +kernel
theorem dX0_wordOf_233 : decode cX0_wordOf 233 = .ok (.getfield 213, 3) := by decide +kernel
theorem dX0_wordOf_236 : decode cX0_wordOf 236 = .ok (.iload_n 2, 1) := by decide +kernel
theorem dX0_wordOf_237 : decode cX0_wordOf 237 = .ok (.iaload, 1) := by decide +kernel
theorem dX0_wordOf_238 : decode cX0_wordOf 238 = .ok (.ireturn, 1) := by decide +kernel
theorem dX0_wordOf_239 : decode cX0_wordOf 239 = .ok (.aload_n 0, 1) := by decide +kernel
theorem dX0_wordOf_240 : decode cX0_wordOf 240 = .ok (.getfield 12, 3) := by decide +kernel
theorem dX0_wordOf_243 : decode cX0_wordOf 243 = .ok (.getfield 179, 3) := by decide +kernel
theorem dX0_wordOf_246 : decode cX0_wordOf 246 = .ok (.iload_n 2, 1) := by decide +kernel
theorem dX0_wordOf_247 : decode cX0_wordOf 247 = .ok (.iaload, 1) := by decide +kernel
theorem dX0_wordOf_248 : decode cX0_wordOf 248 = .ok (.ireturn, 1) := by decide +kernel
theorem dX0_wordOf_249 : decode cX0_wordOf 249 = .ok (.aload_n 0, 1) := by decide +kernel
theorem dX0_wordOf_250 : decode cX0_wordOf 250 = .ok (.getfield 12, 3) := by decide +kernel
theorem dX0_wordOf_253 : decode cX0_wordOf 253 = .ok (.getfield 348, 3) := by decide +kernel
theorem dX0_wordOf_256 : decode cX0_wordOf 256 = .ok (.iload_n 2, 1) := by decide +kernel
theorem dX0_wordOf_257 : decode cX0_wordOf 257 = .ok (.iaload, 1) := by decide +kernel
theorem dX0_wordOf_258 : decode cX0_wordOf 258 = .ok (.ireturn, 1) := by decide +kernel
theorem dX0_wordOf_259 : decode cX0_wordOf 259 = .ok (.aload_n 0, 1) := by decide +kernel
theorem dX0_wordOf_260 : decode cX0_wordOf 260 = .ok (.getfield 12, 3) := by decide +kernel
theorem dX0_wordOf_263 : decode cX0_wordOf 263 = .ok (.getfield 351, 3) := by decide +kernel
theorem dX0_wordOf_266 : decode cX0_wordOf 266 = .ok (.iload_n 2, 1) := by decide +kernel
theorem dX0_wordOf_267 : decode cX0_wordOf 267 = .ok (.iaload, 1) := by decide +kernel
theorem dX0_wordOf_268 : decode cX0_wordOf 268 = .ok (.ireturn, 1) := by decide +kernel
theorem dX0_wordOf_269 : decode cX0_wordOf 269 = .ok (.aload_n 0, 1) := by decide +kernel
theorem dX0_wordOf_270 : decode cX0_wordOf 270 = .ok (.getfield 12, 3) := by decide +kernel
theorem dX0_wordOf_273 : decode cX0_wordOf 273 = .ok (.iload_n 2, 1) := by decide +kernel
theorem dX0_wordOf_274 : decode cX0_wordOf 274 = .ok (.invokevirtual 354, 3) := by decide +kernel
theorem dX4_kinOf_0 : decode cX4_kinOf 0 = .ok (.iconst 0, 1) := by decide +kernel
theorem dX4_kinOf_1 : decode cX4_kinOf 1 = .ok (.istore_n 2, 1) := by decide +kernel
theorem dX4_kinOf_2 : decode cX4_kinOf 2 = .ok (.iconst 0, 1) := by decide +kernel
theorem dX4_kinOf_3 : decode cX4_kinOf 3 = .ok (.istore_n 3, 1) := by decide +kernel
theorem dX4_kinOf_4 : decode cX4_kinOf 4 = .ok (.iload_n 3, 1) := by decide +kernel
theorem dX4_kinOf_5 : decode cX4_kinOf 5 = .ok (.aload_n 0, 1) := by decide +kernel
theorem dX4_kinOf_6 : decode cX4_kinOf 6 = .ok (.getfield 39, 3) := by decide +kernel
theorem dX4_kinOf_9 : decode cX4_kinOf 9 = .ok (.if_icmp .ge 41, 3) := by decide +kernel
theorem dX4_kinOf_12 : decode cX4_kinOf 12 = .ok (.iload_n 3, 1) := by decide +kernel
theorem dX4_kinOf_13 : decode cX4_kinOf 13 = .ok (.iload_n 1, 1) := by decide +kernel
theorem dX4_kinOf_14 : decode cX4_kinOf 14 = .ok (.if_icmp .eq 30, 3) := by decide +kernel
theorem dX4_kinOf_17 : decode cX4_kinOf 17 = .ok (.aload_n 0, 1) := by decide +kernel
theorem dX4_kinOf_18 : decode cX4_kinOf 18 = .ok (.getfield 9, 3) := by decide +kernel
theorem dX4_kinOf_21 : decode cX4_kinOf 21 = .ok (.iload_n 3, 1) := by decide +kernel
theorem dX4_kinOf_22 : decode cX4_kinOf 22 = .ok (.iaload, 1) := by decide +kernel
theorem dX4_kinOf_23 : decode cX4_kinOf 23 = .ok (.aload_n 0, 1) := by decide +kernel
theorem dX4_kinOf_24 : decode cX4_kinOf 24 = .ok (.getfield 9, 3) := by decide +kernel
theorem dX4_kinOf_27 : decode cX4_kinOf 27 = .ok (.iload_n 1, 1) := by decide +kernel
theorem dX4_kinOf_28 : decode cX4_kinOf 28 = .ok (.iaload, 1) := by decide +kernel
theorem dX4_kinOf_29 : decode cX4_kinOf 29 = .ok (.if_icmp .ne 15, 3) := by decide +kernel
theorem dX4_kinOf_32 : decode cX4_kinOf 32 = .ok (.aload_n 0, 1) := by decide +kernel
theorem dX4_kinOf_33 : decode cX4_kinOf 33 = .ok (.getfield 27, 3) := by decide +kernel
theorem dX4_kinOf_36 : decode cX4_kinOf 36 = .ok (.iload_n 3, 1) := by decide +kernel
theorem dX4_kinOf_37 : decode cX4_kinOf 37 = .ok (.iaload, 1) := by decide +kernel
theorem dX4_kinOf_38 : decode cX4_kinOf 38 = .ok (.ifCond .ne 6, 3) := by decide +kernel
theorem dX4_kinOf_41 : decode cX4_kinOf 41 = .ok (.iinc 2 1, 3) := by decide +kernel
theorem dX4_kinOf_44 : decode cX4_kinOf 44 = .ok (.iinc 3 1, 3) := by decide +kernel
theorem dX4_kinOf_47 : decode cX4_kinOf 47 = .ok (.goto (-43), 3) := by decide +kernel
theorem dX4_kinOf_50 : decode cX4_kinOf 50 = .ok (.iload_n 2, 1) := by decide +kernel
theorem dX4_kinOf_51 : decode cX4_kinOf 51 = .ok (.ireturn, 1) := by decide +kernel
theorem dX0_wordOf_277 : decode cX0_wordOf 277 = .ok (.ireturn, 1) := by decide +kernel
theorem dX0_wordOf_18 : decode cX0_wordOf 18 = .ok (.goto 21, 3) := by decide +kernel
theorem dX0_ask_120 : decode cX0_ask 120 = .ok (.i2l, 1) := by decide +kernel
theorem dX0_ask_138 : decode cX0_ask 138 = .ok (.aload_n 0, 1) := by decide +kernel
theorem dX0_ask_139 : decode cX0_ask 139 = .ok (.getfield 57, 3) := by decide +kernel
theorem dX0_ask_142 : decode cX0_ask 142 = .ok (.iload 5, 2) := by decide +kernel
theorem dX0_ask_144 : decode cX0_ask 144 = .ok (.iconst 1, 1) := by decide +kernel
theorem dX0_ask_145 : decode cX0_ask 145 = .ok (.isub, 1) := by decide +kernel
theorem dX0_ask_146 : decode cX0_ask 146 = .ok (.laload, 1) := by decide +kernel
theorem dX0_ask_147 : decode cX0_ask 147 = .ok (.lconst 0, 1) := by decide +kernel
theorem dX0_ask_148 : decode cX0_ask 148 = .ok (.lcmp, 1) := by decide +kernel
theorem dX0_ask_149 : decode cX0_ask 149 = .ok (.ifCond .eq 7, 3) := by decide +kernel
theorem dX0_ask_156 : decode cX0_ask 156 = .ok (.iconst 0, 1) := by decide +kernel
theorem dX0_ask_152 : decode cX0_ask 152 = .ok (.iconst 1, 1) := by decide +kernel
theorem dX0_ask_153 : decode cX0_ask 153 = .ok (.goto 4, 3) := by decide +kernel
theorem dX0_ask_157 : decode cX0_ask 157 = .ok (.istore 9, 2) := by decide +kernel
theorem dX0_ask_159 : decode cX0_ask 159 = .ok (.iload 8, 2) := by decide +kernel
theorem dX0_ask_161 : decode cX0_ask 161 = .ok (.sipush 267, 3) := by decide +kernel
theorem dX0_ask_164 : decode cX0_ask 164 = .ok (.if_icmp .ne 25, 3) := by decide +kernel
theorem dX0_ask_189 : decode cX0_ask 189 = .ok (.iload 8, 2) := by decide +kernel
theorem dX0_ask_191 : decode cX0_ask 191 = .ok (.sipush 259, 3) := by decide +kernel
theorem dX0_ask_194 : decode cX0_ask 194 = .ok (.if_icmp .ne 12, 3) := by decide +kernel
theorem dX0_ask_206 : decode cX0_ask 206 = .ok (.iload 8, 2) := by decide +kernel
theorem dX0_ask_208 : decode cX0_ask 208 = .ok (.sipush 265, 3) := by decide +kernel
theorem dX0_ask_211 : decode cX0_ask 211 = .ok (.if_icmp .ne 8, 3) := by decide +kernel
theorem dX0_ask_219 : decode cX0_ask 219 = .ok (.iload 8, 2) := by decide +kernel
theorem dX0_ask_221 : decode cX0_ask 221 = .ok (.sipush 266, 3) := by decide +kernel
theorem dX0_ask_224 : decode cX0_ask 224 = .ok (.if_icmp .ne 20, 3) := by decide +kernel
theorem dX0_ask_244 : decode cX0_ask 244 = .ok (.iinc 5 (-1), 3) := by decide +kernel
theorem dX0_ask_247 : decode cX0_ask 247 = .ok (.iload 8, 2) := by decide +kernel
theorem dX0_ask_249 : decode cX0_ask 249 = .ok (.sipush 256, 3) := by decide +kernel
theorem dX0_ask_252 : decode cX0_ask 252 = .ok (.if_icmp .ge 62, 3) := by decide +kernel
theorem dX0_ask_255 : decode cX0_ask 255 = .ok (.iload 5, 2) := by decide +kernel
theorem dX0_ask_257 : decode cX0_ask 257 = .ok (.iconst 1, 1) := by decide +kernel
theorem dX0_ask_258 : decode cX0_ask 258 = .ok (.if_icmp .ge 9, 3) := by decide +kernel
theorem dX0_ask_261 : decode cX0_ask 261 = .ok (.ldc2_w 306, 3) := by decide +kernel
theorem dX0_ask_264 : decode cX0_ask 264 = .ok (.goto 24, 3) := by decide +kernel
theorem dX0_ask_288 : decode cX0_ask 288 = .ok (.lstore 10, 2) := by decide +kernel
theorem dX0_ask_290 : decode cX0_ask 290 = .ok (.lload 10, 2) := by decide +kernel
theorem dX0_ask_292 : decode cX0_ask 292 = .ok (.ldc2_w 306, 3) := by decide +kernel
theorem dX0_ask_295 : decode cX0_ask 295 = .ok (.lcmp, 1) := by decide +kernel
theorem dX0_ask_296 : decode cX0_ask 296 = .ok (.ifCond .ne 7, 3) := by decide +kernel
theorem dX0_ask_299 : decode cX0_ask 299 = .ok (.ldc2_w 306, 3) := by decide +kernel
theorem dX0_ask_302 : decode cX0_ask 302 = .ok (.lreturn, 1) := by decide +kernel
theorem dX0_ask_227 : decode cX0_ask 227 = .ok (.iload 9, 2) := by decide +kernel
theorem dX0_ask_229 : decode cX0_ask 229 = .ok (.ifCond .ne 15, 3) := by decide +kernel
theorem dX0_ask_232 : decode cX0_ask 232 = .ok (.aload_n 1, 1) := by decide +kernel
theorem dX0_ask_233 : decode cX0_ask 233 = .ok (.getfield 323, 3) := by decide +kernel
theorem dX0_ask_236 : decode cX0_ask 236 = .ok (.iload 7, 2) := by decide +kernel
theorem dX0_ask_238 : decode cX0_ask 238 = .ok (.iaload, 1) := by decide +kernel
theorem dX0_ask_239 : decode cX0_ask 239 = .ok (.istore 6, 2) := by decide +kernel
theorem dX0_ask_241 : decode cX0_ask 241 = .ok (.goto 73, 3) := by decide +kernel
theorem dX0_ask_214 : decode cX0_ask 214 = .ok (.iload 9, 2) := by decide +kernel
theorem dX0_ask_216 : decode cX0_ask 216 = .ok (.ifCond .ne 16, 3) := by decide +kernel
theorem dX0_ask_197 : decode cX0_ask 197 = .ok (.iload 9, 2) := by decide +kernel
theorem dX0_ask_199 : decode cX0_ask 199 = .ok (.ifCond .ne 7, 3) := by decide +kernel
theorem dX0_ask_202 : decode cX0_ask 202 = .ok (.ldc2_w 306, 3) := by decide +kernel
theorem dX0_ask_205 : decode cX0_ask 205 = .ok (.lreturn, 1) := by decide +kernel
theorem dX0_ask_167 : decode cX0_ask 167 = .ok (.aload_n 0, 1) := by decide +kernel
theorem dX0_ask_168 : decode cX0_ask 168 = .ok (.getfield 57, 3) := by decide +kernel
theorem dX0_ask_171 : decode cX0_ask 171 = .ok (.iload 5, 2) := by decide +kernel
theorem dX0_ask_173 : decode cX0_ask 173 = .ok (.iconst 1, 1) := by decide +kernel
theorem dX0_ask_174 : decode cX0_ask 174 = .ok (.isub, 1) := by decide +kernel
theorem dX0_ask_175 : decode cX0_ask 175 = .ok (.iload 9, 2) := by decide +kernel
theorem dX0_ask_177 : decode cX0_ask 177 = .ok (.ifCond .eq 7, 3) := by decide +kernel
theorem dX0_ask_184 : decode cX0_ask 184 = .ok (.lconst 1, 1) := by decide +kernel
theorem dX0_ask_180 : decode cX0_ask 180 = .ok (.lconst 0, 1) := by decide +kernel
theorem dX0_ask_181 : decode cX0_ask 181 = .ok (.goto 4, 3) := by decide +kernel
theorem dX0_ask_185 : decode cX0_ask 185 = .ok (.lastore, 1) := by decide +kernel
theorem dX0_ask_186 : decode cX0_ask 186 = .ok (.goto 128, 3) := by decide +kernel
theorem dX0_ask_267 : decode cX0_ask 267 = .ok (.iload 8, 2) := by decide +kernel
theorem dX0_ask_269 : decode cX0_ask 269 = .ok (.aload_n 0, 1) := by decide +kernel
theorem dX0_ask_270 : decode cX0_ask 270 = .ok (.getfield 57, 3) := by decide +kernel
theorem dX0_ask_273 : decode cX0_ask 273 = .ok (.iload 5, 2) := by decide +kernel
theorem dX0_ask_275 : decode cX0_ask 275 = .ok (.iconst 1, 1) := by decide +kernel
theorem dX0_ask_276 : decode cX0_ask 276 = .ok (.isub, 1) := by decide +kernel
theorem dX0_ask_277 : decode cX0_ask 277 = .ok (.laload, 1) := by decide +kernel
theorem dX0_ask_278 : decode cX0_ask 278 = .ok (.aload_n 0, 1) := by decide +kernel
theorem dX0_ask_279 : decode cX0_ask 279 = .ok (.getfield 57, 3) := by decide +kernel
theorem dX0_ask_282 : decode cX0_ask 282 = .ok (.iload 5, 2) := by decide +kernel
theorem dX0_ask_284 : decode cX0_ask 284 = .ok (.laload, 1) := by decide +kernel
theorem dX0_ask_285 : decode cX0_ask 285 = .ok (.invokestatic 330, 3) := by decide +kernel
theorem dX0_join_0 : decode cX0_join 0 = .ok (.iload_n 0, 1) := by decide +kernel
theorem dX0_join_1 : decode cX0_join 1 = .ok (.lookupswitch 135 #[(42, 75), (43, 59), (45, 67), (47, 83), (60, 103), (62, 119)], 59) := by decide +kernel
theorem dX0_join_76 : decode cX0_join 76 = .ok (.lload_n 1, 1) := by decide +kernel
theorem dX0_join_77 : decode cX0_join 77 = .ok (.lload_n 3, 1) := by decide +kernel
theorem dX0_join_78 : decode cX0_join 78 = .ok (.lmul, 1) := by decide +kernel
theorem dX0_join_79 : decode cX0_join 79 = .ok (.lstore 5, 2) := by decide +kernel
theorem dX0_join_81 : decode cX0_join 81 = .ok (.goto 68, 3) := by decide +kernel
theorem dX0_join_60 : decode cX0_join 60 = .ok (.lload_n 1, 1) := by decide +kernel
theorem dX0_join_61 : decode cX0_join 61 = .ok (.lload_n 3, 1) := by decide +kernel
theorem dX0_join_62 : decode cX0_join 62 = .ok (.ladd, 1) := by decide +kernel
theorem dX0_join_63 : decode cX0_join 63 = .ok (.lstore 5, 2) := by decide +kernel
theorem dX0_join_65 : decode cX0_join 65 = .ok (.goto 84, 3) := by decide +kernel
theorem dX0_join_68 : decode cX0_join 68 = .ok (.lload_n 1, 1) := by decide +kernel
theorem dX0_join_69 : decode cX0_join 69 = .ok (.lload_n 3, 1) := by decide +kernel
theorem dX0_join_70 : decode cX0_join 70 = .ok (.lsub, 1) := by decide +kernel
theorem dX0_join_71 : decode cX0_join 71 = .ok (.lstore 5, 2) := by decide +kernel
theorem dX0_join_73 : decode cX0_join 73 = .ok (.goto 76, 3) := by decide +kernel
theorem dX0_join_84 : decode cX0_join 84 = .ok (.lload_n 3, 1) := by decide +kernel
theorem dX0_join_85 : decode cX0_join 85 = .ok (.lconst 0, 1) := by decide +kernel
theorem dX0_join_86 : decode cX0_join 86 = .ok (.lcmp, 1) := by decide +kernel
theorem dX0_join_87 : decode cX0_join 87 = .ok (.ifCond .ne 9, 3) := by decide +kernel
theorem dX0_join_96 : decode cX0_join 96 = .ok (.lload_n 1, 1) := by decide +kernel
theorem dX0_join_97 : decode cX0_join 97 = .ok (.lload_n 3, 1) := by decide +kernel
theorem dX0_join_98 : decode cX0_join 98 = .ok (.ldiv, 1) := by decide +kernel
theorem dX0_join_90 : decode cX0_join 90 = .ok (.ldc2_w 306, 3) := by decide +kernel
theorem dX0_join_93 : decode cX0_join 93 = .ok (.goto 6, 3) := by decide +kernel
theorem dX0_join_99 : decode cX0_join 99 = .ok (.lstore 5, 2) := by decide +kernel
theorem dX0_join_101 : decode cX0_join 101 = .ok (.goto 48, 3) := by decide +kernel
theorem dX0_join_104 : decode cX0_join 104 = .ok (.lload_n 1, 1) := by decide +kernel
theorem dX0_join_105 : decode cX0_join 105 = .ok (.lload_n 3, 1) := by decide +kernel
theorem dX0_join_106 : decode cX0_join 106 = .ok (.lcmp, 1) := by decide +kernel
theorem dX0_join_107 : decode cX0_join 107 = .ok (.ifCond .ge 7, 3) := by decide +kernel
theorem dX0_join_114 : decode cX0_join 114 = .ok (.lconst 0, 1) := by decide +kernel
theorem dX0_join_110 : decode cX0_join 110 = .ok (.lconst 1, 1) := by decide +kernel
theorem dX0_join_111 : decode cX0_join 111 = .ok (.goto 4, 3) := by decide +kernel
theorem dX0_join_115 : decode cX0_join 115 = .ok (.lstore 5, 2) := by decide +kernel
theorem dX0_join_117 : decode cX0_join 117 = .ok (.goto 32, 3) := by decide +kernel
theorem dX0_join_120 : decode cX0_join 120 = .ok (.lload_n 1, 1) := by decide +kernel
theorem dX0_join_121 : decode cX0_join 121 = .ok (.lload_n 3, 1) := by decide +kernel
theorem dX0_join_122 : decode cX0_join 122 = .ok (.lcmp, 1) := by decide +kernel
theorem dX0_join_123 : decode cX0_join 123 = .ok (.ifCond .le 7, 3) := by decide +kernel
theorem dX0_join_130 : decode cX0_join 130 = .ok (.lconst 0, 1) := by decide +kernel
theorem dX0_join_126 : decode cX0_join 126 = .ok (.lconst 1, 1) := by decide +kernel
theorem dX0_join_127 : decode cX0_join 127 = .ok (.goto 4, 3) := by decide +kernel
theorem dX0_join_131 : decode cX0_join 131 = .ok (.lstore 5, 2) := by decide +kernel
theorem dX0_join_133 : decode cX0_join 133 = .ok (.goto 16, 3) := by decide +kernel
theorem dX0_join_136 : decode cX0_join 136 = .ok (.lload_n 1, 1) := by decide +kernel
theorem dX0_join_137 : decode cX0_join 137 = .ok (.lload_n 3, 1) := by decide +kernel
theorem dX0_join_138 : decode cX0_join 138 = .ok (.lcmp, 1) := by decide +kernel
theorem dX0_join_139 : decode cX0_join 139 = .ok (.ifCond .ne 7, 3) := by decide +kernel
theorem dX0_join_146 : decode cX0_join 146 = .ok (.lconst 0, 1) := by decide +kernel
theorem dX0_join_142 : decode cX0_join 142 = .ok (.lconst 1, 1) := by decide +kernel
theorem dX0_join_143 : decode cX0_join 143 = .ok (.goto 4, 3) := by decide +kernel
theorem dX0_join_147 : decode cX0_join 147 = .ok (.lstore 5, 2) := by decide +kernel
theorem dX0_join_149 : decode cX0_join 149 = .ok (.lload 5, 2) := by decide +kernel
theorem dX0_join_151 : decode cX0_join 151 = .ok (.ldc2_w 334, 3) := by decide +kernel
theorem dX0_join_154 : decode cX0_join 154 = .ok (.lcmp, 1) := by decide +kernel
theorem dX0_join_155 : decode cX0_join 155 = .ok (.ifCond .lt 12, 3) := by decide +kernel
theorem dX0_join_167 : decode cX0_join 167 = .ok (.ldc2_w 306, 3) := by decide +kernel
theorem dX0_join_170 : decode cX0_join 170 = .ok (.goto 5, 3) := by decide +kernel
theorem dX0_join_158 : decode cX0_join 158 = .ok (.lload 5, 2) := by decide +kernel
theorem dX0_join_160 : decode cX0_join 160 = .ok (.ldc2_w 336, 3) := by decide +kernel
theorem dX0_join_163 : decode cX0_join 163 = .ok (.lcmp, 1) := by decide +kernel
theorem dX0_join_164 : decode cX0_join 164 = .ok (.ifCond .le 9, 3) := by decide +kernel
theorem dX0_join_173 : decode cX0_join 173 = .ok (.lload 5, 2) := by decide +kernel
theorem dX0_join_175 : decode cX0_join 175 = .ok (.lreturn, 1) := by decide +kernel
theorem dX0_ask_303 : decode cX0_ask 303 = .ok (.aload_n 0, 1) := by decide +kernel
theorem dX0_ask_304 : decode cX0_ask 304 = .ok (.getfield 57, 3) := by decide +kernel
theorem dX0_ask_307 : decode cX0_ask 307 = .ok (.iload 5, 2) := by decide +kernel
theorem dX0_ask_309 : decode cX0_ask 309 = .ok (.iconst 1, 1) := by decide +kernel
theorem dX0_ask_310 : decode cX0_ask 310 = .ok (.isub, 1) := by decide +kernel
theorem dX0_ask_311 : decode cX0_ask 311 = .ok (.lload 10, 2) := by decide +kernel
theorem dX0_ask_313 : decode cX0_ask 313 = .ok (.lastore, 1) := by decide +kernel
theorem dX0_ask_39 : decode cX0_ask 39 = .ok (.goto 275, 3) := by decide +kernel
theorem dX0_ask_82 : decode cX0_ask 82 = .ok (.ldc2_w 306, 3) := by decide +kernel
theorem dX0_ask_85 : decode cX0_ask 85 = .ok (.lreturn, 1) := by decide +kernel
theorem dX0_ask_320 : decode cX0_ask 320 = .ok (.aload_n 0, 1) := by decide +kernel
theorem dX0_ask_321 : decode cX0_ask 321 = .ok (.getfield 57, 3) := by decide +kernel
theorem dX0_ask_324 : decode cX0_ask 324 = .ok (.iconst 0, 1) := by decide +kernel
theorem dX0_ask_325 : decode cX0_ask 325 = .ok (.laload, 1) := by decide +kernel
theorem dX0_ask_326 : decode cX0_ask 326 = .ok (.lreturn, 1) := by decide +kernel
theorem dX0_anyHolds_81 : decode cX0_anyHolds 81 = .ok (.ldc2_w 306, 3) := by decide +kernel
theorem dX0_anyHolds_84 : decode cX0_anyHolds 84 = .ok (.lcmp, 1) := by decide +kernel
theorem dX0_anyHolds_85 : decode cX0_anyHolds 85 = .ok (.ifCond .eq 5, 3) := by decide +kernel
theorem dX0_anyHolds_88 : decode cX0_anyHolds 88 = .ok (.iconst 1, 1) := by decide +kernel
theorem dX0_anyHolds_89 : decode cX0_anyHolds 89 = .ok (.ireturn, 1) := by decide +kernel
theorem dX0_anyHolds_102 : decode cX0_anyHolds 102 = .ok (.iconst 0, 1) := by decide +kernel
theorem dX0_anyHolds_103 : decode cX0_anyHolds 103 = .ok (.ireturn, 1) := by decide +kernel
theorem dX0_clauseHolds_0 : decode cX0_clauseHolds 0 = .ok (.aload_n 0, 1) := by decide +kernel
theorem dX0_clauseHolds_1 : decode cX0_clauseHolds 1 = .ok (.getfield 42, 3) := by decide +kernel
theorem dX0_clauseHolds_4 : decode cX0_clauseHolds 4 = .ok (.getfield 287, 3) := by decide +kernel
theorem dX0_clauseHolds_7 : decode cX0_clauseHolds 7 = .ok (.iload_n 1, 1) := by decide +kernel
theorem dX0_clauseHolds_8 : decode cX0_clauseHolds 8 = .ok (.aaload, 1) := by decide +kernel
theorem dX0_clauseHolds_9 : decode cX0_clauseHolds 9 = .ok (.astore 5, 2) := by decide +kernel
theorem dX0_clauseHolds_11 : decode cX0_clauseHolds 11 = .ok (.aload 5, 2) := by decide +kernel
theorem dX0_clauseHolds_13 : decode cX0_clauseHolds 13 = .ok (.ifnull 15, 3) := by decide +kernel
theorem dX0_clauseHolds_28 : decode cX0_clauseHolds 28 = .ok (.iconst 0, 1) := by decide +kernel
theorem dX0_clauseHolds_29 : decode cX0_clauseHolds 29 = .ok (.ireturn, 1) := by decide +kernel
theorem dX0_clauseHolds_16 : decode cX0_clauseHolds 16 = .ok (.aload_n 0, 1) := by decide +kernel
theorem dX0_clauseHolds_17 : decode cX0_clauseHolds 17 = .ok (.getfield 42, 3) := by decide +kernel
theorem dX0_clauseHolds_20 : decode cX0_clauseHolds 20 = .ok (.iload_n 1, 1) := by decide +kernel
theorem dX0_clauseHolds_21 : decode cX0_clauseHolds 21 = .ok (.iload_n 2, 1) := by decide +kernel
theorem dX0_clauseHolds_22 : decode cX0_clauseHolds 22 = .ok (.invokevirtual 299, 3) := by decide +kernel
theorem dX0_clauseHolds_25 : decode cX0_clauseHolds 25 = .ok (.ifCond .ne 5, 3) := by decide +kernel
theorem dX0_clauseHolds_30 : decode cX0_clauseHolds 30 = .ok (.aload 5, 2) := by decide +kernel
theorem dX0_clauseHolds_32 : decode cX0_clauseHolds 32 = .ok (.getfield 296, 3) := by decide +kernel
theorem dX0_clauseHolds_35 : decode cX0_clauseHolds 35 = .ok (.iload_n 2, 1) := by decide +kernel
theorem dX0_clauseHolds_36 : decode cX0_clauseHolds 36 = .ok (.iaload, 1) := by decide +kernel
theorem dX0_clauseHolds_37 : decode cX0_clauseHolds 37 = .ok (.istore 6, 2) := by decide +kernel
theorem dX0_clauseHolds_39 : decode cX0_clauseHolds 39 = .ok (.iload 6, 2) := by decide +kernel
theorem dX0_clauseHolds_41 : decode cX0_clauseHolds 41 = .ok (.sipush 256, 3) := by decide +kernel
theorem dX0_clauseHolds_44 : decode cX0_clauseHolds 44 = .ok (.if_icmp .eq 32, 3) := by decide +kernel
theorem dX0_clauseHolds_76 : decode cX0_clauseHolds 76 = .ok (.iconst 0, 1) := by decide +kernel
theorem dX0_clauseHolds_47 : decode cX0_clauseHolds 47 = .ok (.iload 6, 2) := by decide +kernel
theorem dX0_clauseHolds_49 : decode cX0_clauseHolds 49 = .ok (.sipush 258, 3) := by decide +kernel
theorem dX0_clauseHolds_52 : decode cX0_clauseHolds 52 = .ok (.if_icmp .eq 24, 3) := by decide +kernel
theorem dX0_clauseHolds_55 : decode cX0_clauseHolds 55 = .ok (.aload_n 0, 1) := by decide +kernel
theorem dX0_clauseHolds_56 : decode cX0_clauseHolds 56 = .ok (.aload 5, 2) := by decide +kernel
theorem dX0_clauseHolds_58 : decode cX0_clauseHolds 58 = .ok (.iload_n 2, 1) := by decide +kernel
theorem dX0_clauseHolds_59 : decode cX0_clauseHolds 59 = .ok (.iload_n 3, 1) := by decide +kernel
theorem dX0_clauseHolds_60 : decode cX0_clauseHolds 60 = .ok (.iload 4, 2) := by decide +kernel
theorem dX0_clauseHolds_62 : decode cX0_clauseHolds 62 = .ok (.invokevirtual 302, 3) := by decide +kernel
theorem dX0_clauseHolds_65 : decode cX0_clauseHolds 65 = .ok (.ldc2_w 306, 3) := by decide +kernel
theorem dX0_clauseHolds_68 : decode cX0_clauseHolds 68 = .ok (.lcmp, 1) := by decide +kernel
theorem dX0_clauseHolds_69 : decode cX0_clauseHolds 69 = .ok (.ifCond .eq 7, 3) := by decide +kernel
theorem dX0_clauseHolds_72 : decode cX0_clauseHolds 72 = .ok (.iconst 1, 1) := by decide +kernel
theorem dX0_clauseHolds_73 : decode cX0_clauseHolds 73 = .ok (.goto 4, 3) := by decide +kernel
theorem dX0_clauseHolds_77 : decode cX0_clauseHolds 77 = .ok (.ireturn, 1) := by decide +kernel
theorem dX0_collectRents_0 : decode cX0_collectRents 0 = .ok (.iconst 0, 1) := by decide +kernel
theorem dX0_collectRents_1 : decode cX0_collectRents 1 = .ok (.istore_n 1, 1) := by decide +kernel
theorem dX0_collectRents_2 : decode cX0_collectRents 2 = .ok (.iload_n 1, 1) := by decide +kernel
theorem dX0_collectRents_3 : decode cX0_collectRents 3 = .ok (.aload_n 0, 1) := by decide +kernel
theorem dX0_collectRents_4 : decode cX0_collectRents 4 = .ok (.getfield 21, 3) := by decide +kernel
theorem dX0_collectRents_7 : decode cX0_collectRents 7 = .ok (.getfield 171, 3) := by decide +kernel
theorem dX0_collectRents_10 : decode cX0_collectRents 10 = .ok (.if_icmp .ge 171, 3) := by decide +kernel
theorem dX0_collectRents_13 : decode cX0_collectRents 13 = .ok (.aload_n 0, 1) := by decide +kernel
theorem dX0_collectRents_14 : decode cX0_collectRents 14 = .ok (.getfield 21, 3) := by decide +kernel
theorem dX0_collectRents_17 : decode cX0_collectRents 17 = .ok (.getfield 124, 3) := by decide +kernel
theorem dX0_collectRents_20 : decode cX0_collectRents 20 = .ok (.iload_n 1, 1) := by decide +kernel
theorem dX0_collectRents_21 : decode cX0_collectRents 21 = .ok (.iaload, 1) := by decide +kernel
theorem dX0_collectRents_22 : decode cX0_collectRents 22 = .ok (.istore_n 2, 1) := by decide +kernel
theorem dX0_collectRents_23 : decode cX0_collectRents 23 = .ok (.iload_n 2, 1) := by decide +kernel
theorem dX0_collectRents_24 : decode cX0_collectRents 24 = .ok (.iconst (-1), 1) := by decide +kernel
theorem dX0_collectRents_25 : decode cX0_collectRents 25 = .ok (.if_icmp .eq 150, 3) := by decide +kernel
theorem dX0_collectRents_28 : decode cX0_collectRents 28 = .ok (.aload_n 0, 1) := by decide +kernel
theorem dX0_collectRents_29 : decode cX0_collectRents 29 = .ok (.getfield 12, 3) := by decide +kernel
theorem dX0_collectRents_32 : decode cX0_collectRents 32 = .ok (.getfield 182, 3) := by decide +kernel
theorem dX0_collectRents_35 : decode cX0_collectRents 35 = .ok (.iload_n 2, 1) := by decide +kernel
theorem dX0_collectRents_36 : decode cX0_collectRents 36 = .ok (.iaload, 1) := by decide +kernel
theorem dX0_collectRents_37 : decode cX0_collectRents 37 = .ok (.ifCond .ne 138, 3) := by decide +kernel
theorem dX0_collectRents_40 : decode cX0_collectRents 40 = .ok (.aload_n 0, 1) := by decide +kernel
theorem dX0_collectRents_41 : decode cX0_collectRents 41 = .ok (.getfield 21, 3) := by decide +kernel
theorem dX0_collectRents_44 : decode cX0_collectRents 44 = .ok (.iload_n 1, 1) := by decide +kernel
theorem dX0_collectRents_45 : decode cX0_collectRents 45 = .ok (.invokevirtual 185, 3) := by decide +kernel
theorem dX1_rentOf_0 : decode cX1_rentOf 0 = .ok (.aload_n 0, 1) := by decide +kernel
theorem dX1_rentOf_1 : decode cX1_rentOf 1 = .ok (.getfield 18, 3) := by decide +kernel
theorem dX1_rentOf_4 : decode cX1_rentOf 4 = .ok (.iload_n 1, 1) := by decide +kernel
theorem dX1_rentOf_5 : decode cX1_rentOf 5 = .ok (.iaload, 1) := by decide +kernel
theorem dX1_rentOf_6 : decode cX1_rentOf 6 = .ok (.iconst 0, 1) := by decide +kernel
theorem dX1_rentOf_7 : decode cX1_rentOf 7 = .ok (.invokestatic 52, 3) := by decide +kernel
theorem dX1_rentOf_10 : decode cX1_rentOf 10 = .ok (.ireturn, 1) := by decide +kernel
theorem dX0_collectRents_48 : decode cX0_collectRents 48 = .ok (.aload_n 0, 1) := by decide +kernel
theorem dX0_collectRents_49 : decode cX0_collectRents 49 = .ok (.getfield 21, 3) := by decide +kernel
theorem dX0_collectRents_52 : decode cX0_collectRents 52 = .ok (.getfield 188, 3) := by decide +kernel
theorem dX0_collectRents_55 : decode cX0_collectRents 55 = .ok (.iload_n 1, 1) := by decide +kernel
theorem dX0_collectRents_56 : decode cX0_collectRents 56 = .ok (.iaload, 1) := by decide +kernel
theorem dX0_collectRents_57 : decode cX0_collectRents 57 = .ok (.iadd, 1) := by decide +kernel
theorem dX0_collectRents_58 : decode cX0_collectRents 58 = .ok (.istore_n 3, 1) := by decide +kernel
theorem dX0_collectRents_59 : decode cX0_collectRents 59 = .ok (.aload_n 0, 1) := by decide +kernel
theorem dX0_collectRents_60 : decode cX0_collectRents 60 = .ok (.getfield 53, 3) := by decide +kernel
theorem dX0_collectRents_63 : decode cX0_collectRents 63 = .ok (.iload_n 1, 1) := by decide +kernel
theorem dX0_collectRents_64 : decode cX0_collectRents 64 = .ok (.iaload, 1) := by decide +kernel
theorem dX0_collectRents_65 : decode cX0_collectRents 65 = .ok (.iconst (-1), 1) := by decide +kernel
theorem dX0_collectRents_66 : decode cX0_collectRents 66 = .ok (.if_icmp .ne 15, 3) := by decide +kernel
theorem dX0_collectRents_81 : decode cX0_collectRents 81 = .ok (.aload_n 0, 1) := by decide +kernel
theorem dX0_collectRents_82 : decode cX0_collectRents 82 = .ok (.getfield 53, 3) := by decide +kernel
theorem dX0_collectRents_85 : decode cX0_collectRents 85 = .ok (.iload_n 1, 1) := by decide +kernel
theorem dX0_collectRents_86 : decode cX0_collectRents 86 = .ok (.iaload, 1) := by decide +kernel
theorem dX0_collectRents_87 : decode cX0_collectRents 87 = .ok (.iconst 1, 1) := by decide +kernel
theorem dX0_collectRents_88 : decode cX0_collectRents 88 = .ok (.if_icmp .ne 7, 3) := by decide +kernel
theorem dX0_collectRents_95 : decode cX0_collectRents 95 = .ok (.iconst 0, 1) := by decide +kernel
theorem dX0_collectRents_91 : decode cX0_collectRents 91 = .ok (.iconst 1, 1) := by decide +kernel
theorem dX0_collectRents_92 : decode cX0_collectRents 92 = .ok (.goto 4, 3) := by decide +kernel
theorem dX0_collectRents_69 : decode cX0_collectRents 69 = .ok (.aload_n 0, 1) := by decide +kernel
theorem dX0_collectRents_70 : decode cX0_collectRents 70 = .ok (.sipush 262, 3) := by decide +kernel
theorem dX0_collectRents_73 : decode cX0_collectRents 73 = .ok (.iload_n 2, 1) := by decide +kernel
theorem dX0_collectRents_74 : decode cX0_collectRents 74 = .ok (.iload_n 1, 1) := by decide +kernel
theorem dX0_collectRents_75 : decode cX0_collectRents 75 = .ok (.invokevirtual 191, 3) := by decide +kernel
theorem dX0_collectRents_78 : decode cX0_collectRents 78 = .ok (.goto 18, 3) := by decide +kernel
theorem dX0_collectRents_96 : decode cX0_collectRents 96 = .ok (.istore 4, 2) := by decide +kernel
theorem dX0_collectRents_98 : decode cX0_collectRents 98 = .ok (.iload 4, 2) := by decide +kernel
theorem dX0_collectRents_100 : decode cX0_collectRents 100 = .ok (.ifCond .eq 11, 3) := by decide +kernel
theorem dX0_collectRents_111 : decode cX0_collectRents 111 = .ok (.iload_n 3, 1) := by decide +kernel
theorem dX0_collectRents_103 : decode cX0_collectRents 103 = .ok (.aload_n 0, 1) := by decide +kernel
theorem dX0_collectRents_104 : decode cX0_collectRents 104 = .ok (.iload_n 1, 1) := by decide +kernel
theorem dX0_collectRents_105 : decode cX0_collectRents 105 = .ok (.invokevirtual 195, 3) := by decide +kernel
theorem dX0_fairOf_0 : decode cX0_fairOf 0 = .ok (.aload_n 0, 1) := by decide +kernel
theorem dX0_fairOf_1 : decode cX0_fairOf 1 = .ok (.getfield 21, 3) := by decide +kernel
theorem dX0_fairOf_4 : decode cX0_fairOf 4 = .ok (.iload_n 1, 1) := by decide +kernel
theorem dX0_fairOf_5 : decode cX0_fairOf 5 = .ok (.invokevirtual 185, 3) := by decide +kernel
theorem dX0_fairOf_8 : decode cX0_fairOf 8 = .ok (.istore_n 2, 1) := by decide +kernel
theorem dX0_fairOf_9 : decode cX0_fairOf 9 = .ok (.aload_n 0, 1) := by decide +kernel
theorem dX0_fairOf_10 : decode cX0_fairOf 10 = .ok (.getfield 42, 3) := by decide +kernel
theorem dX0_fairOf_13 : decode cX0_fairOf 13 = .ok (.getfield 286, 3) := by decide +kernel
theorem dX0_fairOf_16 : decode cX0_fairOf 16 = .ok (.iconst 1, 1) := by decide +kernel
theorem dX0_fairOf_17 : decode cX0_fairOf 17 = .ok (.isub, 1) := by decide +kernel
theorem dX0_fairOf_18 : decode cX0_fairOf 18 = .ok (.istore_n 3, 1) := by decide +kernel
theorem dX0_fairOf_19 : decode cX0_fairOf 19 = .ok (.iload_n 3, 1) := by decide +kernel
theorem dX0_fairOf_20 : decode cX0_fairOf 20 = .ok (.ifCond .lt 121, 3) := by decide +kernel
theorem dX0_fairOf_23 : decode cX0_fairOf 23 = .ok (.aload_n 0, 1) := by decide +kernel
theorem dX0_fairOf_24 : decode cX0_fairOf 24 = .ok (.getfield 42, 3) := by decide +kernel
theorem dX0_fairOf_27 : decode cX0_fairOf 27 = .ok (.getfield 287, 3) := by decide +kernel
theorem dX0_fairOf_30 : decode cX0_fairOf 30 = .ok (.iload_n 3, 1) := by decide +kernel
theorem dX0_fairOf_31 : decode cX0_fairOf 31 = .ok (.aaload, 1) := by decide +kernel
theorem dX0_fairOf_32 : decode cX0_fairOf 32 = .ok (.astore 4, 2) := by decide +kernel
theorem dX0_fairOf_34 : decode cX0_fairOf 34 = .ok (.aload 4, 2) := by decide +kernel
theorem dX0_fairOf_36 : decode cX0_fairOf 36 = .ok (.ifnonnull 7, 3) := by decide +kernel
theorem dX0_fairOf_39 : decode cX0_fairOf 39 = .ok (.iconst (-1), 1) := by decide +kernel
theorem dX0_fairOf_40 : decode cX0_fairOf 40 = .ok (.goto 10, 3) := by decide +kernel
theorem dX0_fairOf_50 : decode cX0_fairOf 50 = .ok (.istore 5, 2) := by decide +kernel
theorem dX0_fairOf_52 : decode cX0_fairOf 52 = .ok (.iload 5, 2) := by decide +kernel
theorem dX0_fairOf_54 : decode cX0_fairOf 54 = .ok (.ifCond .lt 81, 3) := by decide +kernel
theorem dX0_fairOf_135 : decode cX0_fairOf 135 = .ok (.iinc 3 (-1), 3) := by decide +kernel
theorem dX0_fairOf_138 : decode cX0_fairOf 138 = .ok (.goto (-119), 3) := by decide +kernel
theorem dX0_fairOf_43 : decode cX0_fairOf 43 = .ok (.aload 4, 2) := by decide +kernel
theorem dX0_fairOf_45 : decode cX0_fairOf 45 = .ok (.getfield 291, 3) := by decide +kernel
theorem dX0_fairOf_48 : decode cX0_fairOf 48 = .ok (.iconst 1, 1) := by decide +kernel
theorem dX0_fairOf_49 : decode cX0_fairOf 49 = .ok (.isub, 1) := by decide +kernel
theorem dX0_fairOf_57 : decode cX0_fairOf 57 = .ok (.aload 4, 2) := by decide +kernel
theorem dX0_fairOf_59 : decode cX0_fairOf 59 = .ok (.getfield 296, 3) := by decide +kernel
theorem dX0_fairOf_62 : decode cX0_fairOf 62 = .ok (.iload 5, 2) := by decide +kernel
theorem dX0_fairOf_64 : decode cX0_fairOf 64 = .ok (.iaload, 1) := by decide +kernel
theorem dX0_fairOf_65 : decode cX0_fairOf 65 = .ok (.sipush 260, 3) := by decide +kernel
theorem dX0_fairOf_68 : decode cX0_fairOf 68 = .ok (.if_icmp .ne 61, 3) := by decide +kernel
theorem dX0_fairOf_129 : decode cX0_fairOf 129 = .ok (.iinc 5 (-1), 3) := by decide +kernel
theorem dX0_fairOf_132 : decode cX0_fairOf 132 = .ok (.goto (-80), 3) := by decide +kernel
theorem dX0_fairOf_71 : decode cX0_fairOf 71 = .ok (.aload_n 0, 1) := by decide +kernel
theorem dX0_fairOf_72 : decode cX0_fairOf 72 = .ok (.getfield 42, 3) := by decide +kernel
theorem dX0_fairOf_75 : decode cX0_fairOf 75 = .ok (.iload_n 3, 1) := by decide +kernel
theorem dX0_fairOf_76 : decode cX0_fairOf 76 = .ok (.iload 5, 2) := by decide +kernel
theorem dX0_fairOf_78 : decode cX0_fairOf 78 = .ok (.invokevirtual 299, 3) := by decide +kernel
theorem dX0_fairOf_81 : decode cX0_fairOf 81 = .ok (.ifCond .ne 6, 3) := by decide +kernel
theorem dX0_fairOf_87 : decode cX0_fairOf 87 = .ok (.aload_n 0, 1) := by decide +kernel
theorem dX0_fairOf_88 : decode cX0_fairOf 88 = .ok (.aload 4, 2) := by decide +kernel
theorem dX0_fairOf_90 : decode cX0_fairOf 90 = .ok (.iload 5, 2) := by decide +kernel
theorem dX0_fairOf_92 : decode cX0_fairOf 92 = .ok (.aload_n 0, 1) := by decide +kernel
theorem dX0_fairOf_93 : decode cX0_fairOf 93 = .ok (.getfield 21, 3) := by decide +kernel
theorem dX0_fairOf_96 : decode cX0_fairOf 96 = .ok (.getfield 124, 3) := by decide +kernel
theorem dX0_fairOf_99 : decode cX0_fairOf 99 = .ok (.iload_n 1, 1) := by decide +kernel
theorem dX0_fairOf_100 : decode cX0_fairOf 100 = .ok (.iaload, 1) := by decide +kernel
theorem dX0_fairOf_101 : decode cX0_fairOf 101 = .ok (.iload_n 1, 1) := by decide +kernel
theorem dX0_fairOf_102 : decode cX0_fairOf 102 = .ok (.invokevirtual 302, 3) := by decide +kernel
theorem dX0_fairOf_105 : decode cX0_fairOf 105 = .ok (.lstore 6, 2) := by decide +kernel
theorem dX0_fairOf_107 : decode cX0_fairOf 107 = .ok (.lload 6, 2) := by decide +kernel
theorem dX0_fairOf_109 : decode cX0_fairOf 109 = .ok (.ldc2_w 306, 3) := by decide +kernel
theorem dX0_fairOf_112 : decode cX0_fairOf 112 = .ok (.lcmp, 1) := by decide +kernel
theorem dX0_fairOf_113 : decode cX0_fairOf 113 = .ok (.ifCond .eq 16, 3) := by decide +kernel
theorem dX0_fairOf_116 : decode cX0_fairOf 116 = .ok (.lconst 0, 1) := by decide +kernel
theorem dX0_fairOf_117 : decode cX0_fairOf 117 = .ok (.lload 6, 2) := by decide +kernel
theorem dX0_fairOf_119 : decode cX0_fairOf 119 = .ok (.iload_n 2, 1) := by decide +kernel
theorem dX0_fairOf_120 : decode cX0_fairOf 120 = .ok (.i2l, 1) := by decide +kernel
theorem dX0_fairOf_121 : decode cX0_fairOf 121 = .ok (.invokestatic 308, 3) := by decide +kernel
theorem dX0_fairOf_124 : decode cX0_fairOf 124 = .ok (.invokestatic 311, 3) := by decide +kernel
theorem dX0_fairOf_127 : decode cX0_fairOf 127 = .ok (.l2i, 1) := by decide +kernel
theorem dX0_fairOf_128 : decode cX0_fairOf 128 = .ok (.ireturn, 1) := by decide +kernel
theorem dX0_fairOf_84 : decode cX0_fairOf 84 = .ok (.goto 45, 3) := by decide +kernel
theorem dX0_fairOf_141 : decode cX0_fairOf 141 = .ok (.iload_n 2, 1) := by decide +kernel
theorem dX0_fairOf_142 : decode cX0_fairOf 142 = .ok (.ireturn, 1) := by decide +kernel
theorem dX0_collectRents_108 : decode cX0_collectRents 108 = .ok (.goto 4, 3) := by decide +kernel
theorem dX0_collectRents_112 : decode cX0_collectRents 112 = .ok (.istore 5, 2) := by decide +kernel
theorem dX0_collectRents_114 : decode cX0_collectRents 114 = .ok (.aload_n 0, 1) := by decide +kernel
theorem dX0_collectRents_115 : decode cX0_collectRents 115 = .ok (.iload_n 2, 1) := by decide +kernel
theorem dX0_collectRents_116 : decode cX0_collectRents 116 = .ok (.iload 5, 2) := by decide +kernel
theorem dX0_collectRents_118 : decode cX0_collectRents 118 = .ok (.invokevirtual 198, 3) := by decide +kernel
theorem dX0_pay_0 : decode cX0_pay 0 = .ok (.iload_n 2, 1) := by decide +kernel
theorem dX0_pay_1 : decode cX0_pay 1 = .ok (.aload_n 0, 1) := by decide +kernel
theorem dX0_pay_2 : decode cX0_pay 2 = .ok (.getfield 12, 3) := by decide +kernel
theorem dX0_pay_5 : decode cX0_pay 5 = .ok (.getfield 213, 3) := by decide +kernel
theorem dX0_pay_8 : decode cX0_pay 8 = .ok (.iload_n 1, 1) := by decide +kernel
theorem dX0_pay_9 : decode cX0_pay 9 = .ok (.iaload, 1) := by decide +kernel
theorem dX0_pay_10 : decode cX0_pay 10 = .ok (.isub, 1) := by decide +kernel
theorem dX0_pay_11 : decode cX0_pay 11 = .ok (.istore_n 3, 1) := by decide +kernel
theorem dX0_pay_12 : decode cX0_pay 12 = .ok (.iload_n 3, 1) := by decide +kernel
theorem dX0_pay_13 : decode cX0_pay 13 = .ok (.ifCond .le 70, 3) := by decide +kernel
theorem dX0_pay_16 : decode cX0_pay 16 = .ok (.aload_n 0, 1) := by decide +kernel
theorem dX0_pay_17 : decode cX0_pay 17 = .ok (.getfield 121, 3) := by decide +kernel
theorem dX0_pay_20 : decode cX0_pay 20 = .ok (.ifCond .le 63, 3) := by decide +kernel
theorem dX0_pay_23 : decode cX0_pay 23 = .ok (.iload_n 3, 1) := by decide +kernel
theorem dX0_pay_24 : decode cX0_pay 24 = .ok (.aload_n 0, 1) := by decide +kernel
theorem dX0_pay_25 : decode cX0_pay 25 = .ok (.getfield 121, 3) := by decide +kernel
theorem dX0_pay_28 : decode cX0_pay 28 = .ok (.iadd, 1) := by decide +kernel
theorem dX0_pay_29 : decode cX0_pay 29 = .ok (.iconst 1, 1) := by decide +kernel
theorem dX0_pay_30 : decode cX0_pay 30 = .ok (.isub, 1) := by decide +kernel
theorem dX0_pay_31 : decode cX0_pay 31 = .ok (.aload_n 0, 1) := by decide +kernel
theorem dX0_pay_32 : decode cX0_pay 32 = .ok (.getfield 121, 3) := by decide +kernel
theorem dX0_pay_35 : decode cX0_pay 35 = .ok (.idiv, 1) := by decide +kernel
theorem dX0_pay_36 : decode cX0_pay 36 = .ok (.aload_n 0, 1) := by decide +kernel
theorem dX0_pay_37 : decode cX0_pay 37 = .ok (.getfield 12, 3) := by decide +kernel
theorem dX0_pay_40 : decode cX0_pay 40 = .ok (.getfield 179, 3) := by decide +kernel
theorem dX0_pay_43 : decode cX0_pay 43 = .ok (.iload_n 1, 1) := by decide +kernel
theorem dX0_pay_44 : decode cX0_pay 44 = .ok (.iaload, 1) := by decide +kernel
theorem dX0_pay_45 : decode cX0_pay 45 = .ok (.invokestatic 208, 3) := by decide +kernel
theorem dX0_pay_48 : decode cX0_pay 48 = .ok (.istore 4, 2) := by decide +kernel
theorem dX0_pay_50 : decode cX0_pay 50 = .ok (.aload_n 0, 1) := by decide +kernel
theorem dX0_pay_51 : decode cX0_pay 51 = .ok (.getfield 12, 3) := by decide +kernel
theorem dX0_pay_54 : decode cX0_pay 54 = .ok (.getfield 179, 3) := by decide +kernel
theorem dX0_pay_57 : decode cX0_pay 57 = .ok (.iload_n 1, 1) := by decide +kernel
theorem dX0_pay_58 : decode cX0_pay 58 = .ok (.dup2, 1) := by decide +kernel
theorem dX0_pay_59 : decode cX0_pay 59 = .ok (.iaload, 1) := by decide +kernel
theorem dX0_pay_60 : decode cX0_pay 60 = .ok (.iload 4, 2) := by decide +kernel
theorem dX0_pay_62 : decode cX0_pay 62 = .ok (.isub, 1) := by decide +kernel
theorem dX0_pay_63 : decode cX0_pay 63 = .ok (.iastore, 1) := by decide +kernel
theorem dX0_pay_64 : decode cX0_pay 64 = .ok (.aload_n 0, 1) := by decide +kernel
theorem dX0_pay_65 : decode cX0_pay 65 = .ok (.getfield 12, 3) := by decide +kernel
theorem dX0_pay_68 : decode cX0_pay 68 = .ok (.getfield 213, 3) := by decide +kernel
theorem dX0_pay_71 : decode cX0_pay 71 = .ok (.iload_n 1, 1) := by decide +kernel
theorem dX0_pay_72 : decode cX0_pay 72 = .ok (.dup2, 1) := by decide +kernel
theorem dX0_pay_73 : decode cX0_pay 73 = .ok (.iaload, 1) := by decide +kernel
theorem dX0_pay_74 : decode cX0_pay 74 = .ok (.iload 4, 2) := by decide +kernel
theorem dX0_pay_76 : decode cX0_pay 76 = .ok (.aload_n 0, 1) := by decide +kernel
theorem dX0_pay_77 : decode cX0_pay 77 = .ok (.getfield 121, 3) := by decide +kernel
theorem dX0_pay_80 : decode cX0_pay 80 = .ok (.imul, 1) := by decide +kernel
theorem dX0_pay_81 : decode cX0_pay 81 = .ok (.iadd, 1) := by decide +kernel
theorem dX0_pay_82 : decode cX0_pay 82 = .ok (.iastore, 1) := by decide +kernel
theorem dX0_pay_83 : decode cX0_pay 83 = .ok (.iload_n 2, 1) := by decide +kernel
theorem dX0_pay_84 : decode cX0_pay 84 = .ok (.aload_n 0, 1) := by decide +kernel
theorem dX0_pay_85 : decode cX0_pay 85 = .ok (.getfield 12, 3) := by decide +kernel
theorem dX0_pay_88 : decode cX0_pay 88 = .ok (.getfield 213, 3) := by decide +kernel
theorem dX0_pay_91 : decode cX0_pay 91 = .ok (.iload_n 1, 1) := by decide +kernel
theorem dX0_pay_92 : decode cX0_pay 92 = .ok (.iaload, 1) := by decide +kernel
theorem dX0_pay_93 : decode cX0_pay 93 = .ok (.invokestatic 208, 3) := by decide +kernel
theorem dX0_pay_96 : decode cX0_pay 96 = .ok (.istore 4, 2) := by decide +kernel
theorem dX0_pay_98 : decode cX0_pay 98 = .ok (.aload_n 0, 1) := by decide +kernel
theorem dX0_pay_99 : decode cX0_pay 99 = .ok (.getfield 12, 3) := by decide +kernel
theorem dX0_pay_102 : decode cX0_pay 102 = .ok (.getfield 213, 3) := by decide +kernel
theorem dX0_pay_105 : decode cX0_pay 105 = .ok (.iload_n 1, 1) := by decide +kernel
theorem dX0_pay_106 : decode cX0_pay 106 = .ok (.dup2, 1) := by decide +kernel
theorem dX0_pay_107 : decode cX0_pay 107 = .ok (.iaload, 1) := by decide +kernel
theorem dX0_pay_108 : decode cX0_pay 108 = .ok (.iload 4, 2) := by decide +kernel
theorem dX0_pay_110 : decode cX0_pay 110 = .ok (.isub, 1) := by decide +kernel
theorem dX0_pay_111 : decode cX0_pay 111 = .ok (.iastore, 1) := by decide +kernel
theorem dX0_pay_112 : decode cX0_pay 112 = .ok (.iload 4, 2) := by decide +kernel
theorem dX0_pay_114 : decode cX0_pay 114 = .ok (.ireturn, 1) := by decide +kernel
theorem dX0_collectRents_121 : decode cX0_collectRents 121 = .ok (.istore 6, 2) := by decide +kernel
theorem dX0_collectRents_123 : decode cX0_collectRents 123 = .ok (.aload_n 0, 1) := by decide +kernel
theorem dX0_collectRents_124 : decode cX0_collectRents 124 = .ok (.getfield 21, 3) := by decide +kernel
theorem dX0_collectRents_127 : decode cX0_collectRents 127 = .ok (.getfield 201, 3) := by decide +kernel
theorem dX0_collectRents_130 : decode cX0_collectRents 130 = .ok (.aload_n 0, 1) := by decide +kernel
theorem dX0_collectRents_131 : decode cX0_collectRents 131 = .ok (.getfield 21, 3) := by decide +kernel
theorem dX0_collectRents_134 : decode cX0_collectRents 134 = .ok (.getfield 204, 3) := by decide +kernel
theorem dX0_collectRents_137 : decode cX0_collectRents 137 = .ok (.iload_n 1, 1) := by decide +kernel
theorem dX0_collectRents_138 : decode cX0_collectRents 138 = .ok (.iaload, 1) := by decide +kernel
theorem dX0_collectRents_139 : decode cX0_collectRents 139 = .ok (.dup2, 1) := by decide +kernel
theorem dX0_collectRents_140 : decode cX0_collectRents 140 = .ok (.iaload, 1) := by decide +kernel
theorem dX0_collectRents_141 : decode cX0_collectRents 141 = .ok (.iload 6, 2) := by decide +kernel
theorem dX0_collectRents_143 : decode cX0_collectRents 143 = .ok (.iadd, 1) := by decide +kernel
theorem dX0_collectRents_144 : decode cX0_collectRents 144 = .ok (.iastore, 1) := by decide +kernel
theorem dX0_collectRents_145 : decode cX0_collectRents 145 = .ok (.aload_n 0, 1) := by decide +kernel
theorem dX0_collectRents_146 : decode cX0_collectRents 146 = .ok (.dup, 1) := by decide +kernel
theorem dX0_collectRents_147 : decode cX0_collectRents 147 = .ok (.getfield 103, 3) := by decide +kernel
theorem dX0_collectRents_150 : decode cX0_collectRents 150 = .ok (.iload 6, 2) := by decide +kernel
theorem dX0_collectRents_152 : decode cX0_collectRents 152 = .ok (.i2l, 1) := by decide +kernel
theorem dX0_collectRents_153 : decode cX0_collectRents 153 = .ok (.ladd, 1) := by decide +kernel
theorem dX0_collectRents_154 : decode cX0_collectRents 154 = .ok (.putfield 103, 3) := by decide +kernel
theorem dX0_collectRents_157 : decode cX0_collectRents 157 = .ok (.aload_n 0, 1) := by decide +kernel
theorem dX0_collectRents_158 : decode cX0_collectRents 158 = .ok (.getfield 21, 3) := by decide +kernel
theorem dX0_collectRents_161 : decode cX0_collectRents 161 = .ok (.getfield 188, 3) := by decide +kernel
theorem dX0_collectRents_164 : decode cX0_collectRents 164 = .ok (.iload_n 1, 1) := by decide +kernel
theorem dX0_collectRents_165 : decode cX0_collectRents 165 = .ok (.iload_n 3, 1) := by decide +kernel
theorem dX0_collectRents_166 : decode cX0_collectRents 166 = .ok (.iload 6, 2) := by decide +kernel
theorem dX0_collectRents_168 : decode cX0_collectRents 168 = .ok (.isub, 1) := by decide +kernel
theorem dX0_collectRents_169 : decode cX0_collectRents 169 = .ok (.ldc 207, 2) := by decide +kernel
theorem dX0_collectRents_171 : decode cX0_collectRents 171 = .ok (.invokestatic 208, 3) := by decide +kernel
theorem dX0_collectRents_174 : decode cX0_collectRents 174 = .ok (.iastore, 1) := by decide +kernel
theorem dX0_collectRents_175 : decode cX0_collectRents 175 = .ok (.iinc 1 1, 3) := by decide +kernel
theorem dX0_collectRents_178 : decode cX0_collectRents 178 = .ok (.goto (-176), 3) := by decide +kernel
theorem dX0_collectRents_181 : decode cX0_collectRents 181 = .ok (.return_, 1) := by decide +kernel
theorem dX0_copyFrom_0 : decode cX0_copyFrom 0 = .ok (.aload_n 0, 1) := by decide +kernel
theorem dX0_copyFrom_1 : decode cX0_copyFrom 1 = .ok (.getfield 12, 3) := by decide +kernel
theorem dX0_copyFrom_4 : decode cX0_copyFrom 4 = .ok (.aload_n 1, 1) := by decide +kernel
theorem dX0_copyFrom_5 : decode cX0_copyFrom 5 = .ok (.getfield 12, 3) := by decide +kernel
theorem dX0_copyFrom_8 : decode cX0_copyFrom 8 = .ok (.invokevirtual 74, 3) := by decide +kernel
theorem dX4_copyFrom_0 : decode cX4_copyFrom 0 = .ok (.aload_n 0, 1) := by decide +kernel
theorem dX4_copyFrom_1 : decode cX4_copyFrom 1 = .ok (.aload_n 1, 1) := by decide +kernel
theorem dX4_copyFrom_2 : decode cX4_copyFrom 2 = .ok (.getfield 39, 3) := by decide +kernel
theorem dX4_copyFrom_5 : decode cX4_copyFrom 5 = .ok (.putfield 39, 3) := by decide +kernel
theorem dX4_copyFrom_8 : decode cX4_copyFrom 8 = .ok (.aload_n 1, 1) := by decide +kernel
theorem dX4_copyFrom_9 : decode cX4_copyFrom 9 = .ok (.getfield 9, 3) := by decide +kernel
theorem dX4_copyFrom_12 : decode cX4_copyFrom 12 = .ok (.iconst 0, 1) := by decide +kernel
theorem dX4_copyFrom_13 : decode cX4_copyFrom 13 = .ok (.aload_n 0, 1) := by decide +kernel
theorem dX4_copyFrom_14 : decode cX4_copyFrom 14 = .ok (.getfield 9, 3) := by decide +kernel
theorem dX4_copyFrom_17 : decode cX4_copyFrom 17 = .ok (.iconst 0, 1) := by decide +kernel
theorem dX4_copyFrom_18 : decode cX4_copyFrom 18 = .ok (.bipush 40, 2) := by decide +kernel
theorem dX4_copyFrom_20 : decode cX4_copyFrom 20 = .ok (.invokestatic 61, 3) := by decide +kernel
theorem dX4_copyFrom_23 : decode cX4_copyFrom 23 = .ok (.aload_n 1, 1) := by decide +kernel
theorem dX4_copyFrom_24 : decode cX4_copyFrom 24 = .ok (.getfield 15, 3) := by decide +kernel
theorem dX4_copyFrom_27 : decode cX4_copyFrom 27 = .ok (.iconst 0, 1) := by decide +kernel
theorem dX4_copyFrom_28 : decode cX4_copyFrom 28 = .ok (.aload_n 0, 1) := by decide +kernel
theorem dX4_copyFrom_29 : decode cX4_copyFrom 29 = .ok (.getfield 15, 3) := by decide +kernel
theorem dX4_copyFrom_32 : decode cX4_copyFrom 32 = .ok (.iconst 0, 1) := by decide +kernel
theorem dX4_copyFrom_33 : decode cX4_copyFrom 33 = .ok (.bipush 40, 2) := by decide +kernel
theorem dX4_copyFrom_35 : decode cX4_copyFrom 35 = .ok (.invokestatic 61, 3) := by decide +kernel
theorem dX4_copyFrom_38 : decode cX4_copyFrom 38 = .ok (.aload_n 1, 1) := by decide +kernel
theorem dX4_copyFrom_39 : decode cX4_copyFrom 39 = .ok (.getfield 18, 3) := by decide +kernel
theorem dX4_copyFrom_42 : decode cX4_copyFrom 42 = .ok (.iconst 0, 1) := by decide +kernel
theorem dX4_copyFrom_43 : decode cX4_copyFrom 43 = .ok (.aload_n 0, 1) := by decide +kernel
theorem dX4_copyFrom_44 : decode cX4_copyFrom 44 = .ok (.getfield 18, 3) := by decide +kernel
theorem dX4_copyFrom_47 : decode cX4_copyFrom 47 = .ok (.iconst 0, 1) := by decide +kernel
theorem dX4_copyFrom_48 : decode cX4_copyFrom 48 = .ok (.bipush 40, 2) := by decide +kernel
theorem dX4_copyFrom_50 : decode cX4_copyFrom 50 = .ok (.invokestatic 61, 3) := by decide +kernel
theorem dX4_copyFrom_53 : decode cX4_copyFrom 53 = .ok (.aload_n 1, 1) := by decide +kernel
theorem dX4_copyFrom_54 : decode cX4_copyFrom 54 = .ok (.getfield 21, 3) := by decide +kernel
theorem dX4_copyFrom_57 : decode cX4_copyFrom 57 = .ok (.iconst 0, 1) := by decide +kernel
theorem dX4_copyFrom_58 : decode cX4_copyFrom 58 = .ok (.aload_n 0, 1) := by decide +kernel
theorem dX4_copyFrom_59 : decode cX4_copyFrom 59 = .ok (.getfield 21, 3) := by decide +kernel
theorem dX4_copyFrom_62 : decode cX4_copyFrom 62 = .ok (.iconst 0, 1) := by decide +kernel
theorem dX4_copyFrom_63 : decode cX4_copyFrom 63 = .ok (.bipush 40, 2) := by decide +kernel
theorem dX4_copyFrom_65 : decode cX4_copyFrom 65 = .ok (.invokestatic 61, 3) := by decide +kernel
theorem dX4_copyFrom_68 : decode cX4_copyFrom 68 = .ok (.aload_n 1, 1) := by decide +kernel
theorem dX4_copyFrom_69 : decode cX4_copyFrom 69 = .ok (.getfield 24, 3) := by decide +kernel
theorem dX4_copyFrom_72 : decode cX4_copyFrom 72 = .ok (.iconst 0, 1) := by decide +kernel
theorem dX4_copyFrom_73 : decode cX4_copyFrom 73 = .ok (.aload_n 0, 1) := by decide +kernel
theorem dX4_copyFrom_74 : decode cX4_copyFrom 74 = .ok (.getfield 24, 3) := by decide +kernel
theorem dX4_copyFrom_77 : decode cX4_copyFrom 77 = .ok (.iconst 0, 1) := by decide +kernel
theorem dX4_copyFrom_78 : decode cX4_copyFrom 78 = .ok (.bipush 40, 2) := by decide +kernel
theorem dX4_copyFrom_80 : decode cX4_copyFrom 80 = .ok (.invokestatic 61, 3) := by decide +kernel
theorem dX4_copyFrom_83 : decode cX4_copyFrom 83 = .ok (.aload_n 1, 1) := by decide +kernel
theorem dX4_copyFrom_84 : decode cX4_copyFrom 84 = .ok (.getfield 27, 3) := by decide +kernel
theorem dX4_copyFrom_87 : decode cX4_copyFrom 87 = .ok (.iconst 0, 1) := by decide +kernel
theorem dX4_copyFrom_88 : decode cX4_copyFrom 88 = .ok (.aload_n 0, 1) := by decide +kernel
theorem dX4_copyFrom_89 : decode cX4_copyFrom 89 = .ok (.getfield 27, 3) := by decide +kernel
theorem dX4_copyFrom_92 : decode cX4_copyFrom 92 = .ok (.iconst 0, 1) := by decide +kernel
theorem dX4_copyFrom_93 : decode cX4_copyFrom 93 = .ok (.bipush 40, 2) := by decide +kernel
theorem dX4_copyFrom_95 : decode cX4_copyFrom 95 = .ok (.invokestatic 61, 3) := by decide +kernel
theorem dX4_copyFrom_98 : decode cX4_copyFrom 98 = .ok (.aload_n 1, 1) := by decide +kernel
theorem dX4_copyFrom_99 : decode cX4_copyFrom 99 = .ok (.getfield 30, 3) := by decide +kernel
theorem dX4_copyFrom_102 : decode cX4_copyFrom 102 = .ok (.iconst 0, 1) := by decide +kernel
theorem dX4_copyFrom_103 : decode cX4_copyFrom 103 = .ok (.aload_n 0, 1) := by decide +kernel
theorem dX4_copyFrom_104 : decode cX4_copyFrom 104 = .ok (.getfield 30, 3) := by decide +kernel
theorem dX4_copyFrom_107 : decode cX4_copyFrom 107 = .ok (.iconst 0, 1) := by decide +kernel
theorem dX4_copyFrom_108 : decode cX4_copyFrom 108 = .ok (.bipush 40, 2) := by decide +kernel
theorem dX4_copyFrom_110 : decode cX4_copyFrom 110 = .ok (.invokestatic 61, 3) := by decide +kernel
theorem dX4_copyFrom_113 : decode cX4_copyFrom 113 = .ok (.aload_n 1, 1) := by decide +kernel
theorem dX4_copyFrom_114 : decode cX4_copyFrom 114 = .ok (.getfield 33, 3) := by decide +kernel
theorem dX4_copyFrom_117 : decode cX4_copyFrom 117 = .ok (.iconst 0, 1) := by decide +kernel
theorem dX4_copyFrom_118 : decode cX4_copyFrom 118 = .ok (.aload_n 0, 1) := by decide +kernel
theorem dX4_copyFrom_119 : decode cX4_copyFrom 119 = .ok (.getfield 33, 3) := by decide +kernel
theorem dX4_copyFrom_122 : decode cX4_copyFrom 122 = .ok (.iconst 0, 1) := by decide +kernel
theorem dX4_copyFrom_123 : decode cX4_copyFrom 123 = .ok (.bipush 40, 2) := by decide +kernel
theorem dX4_copyFrom_125 : decode cX4_copyFrom 125 = .ok (.invokestatic 61, 3) := by decide +kernel
theorem dX4_copyFrom_128 : decode cX4_copyFrom 128 = .ok (.return_, 1) := by decide +kernel
theorem dX0_copyFrom_11 : decode cX0_copyFrom 11 = .ok (.aload_n 0, 1) := by decide +kernel
theorem dX0_copyFrom_12 : decode cX0_copyFrom 12 = .ok (.getfield 21, 3) := by decide +kernel
theorem dX0_copyFrom_15 : decode cX0_copyFrom 15 = .ok (.aload_n 1, 1) := by decide +kernel
theorem dX0_copyFrom_16 : decode cX0_copyFrom 16 = .ok (.getfield 21, 3) := by decide +kernel
theorem dX0_copyFrom_19 : decode cX0_copyFrom 19 = .ok (.invokevirtual 78, 3) := by decide +kernel
theorem dX1_copyFrom_0 : decode cX1_copyFrom 0 = .ok (.aload_n 0, 1) := by decide +kernel
theorem dX1_copyFrom_1 : decode cX1_copyFrom 1 = .ok (.aload_n 1, 1) := by decide +kernel
theorem dX1_copyFrom_2 : decode cX1_copyFrom 2 = .ok (.getfield 46, 3) := by decide +kernel
theorem dX1_copyFrom_5 : decode cX1_copyFrom 5 = .ok (.putfield 46, 3) := by decide +kernel
theorem dX1_copyFrom_8 : decode cX1_copyFrom 8 = .ok (.aload_n 1, 1) := by decide +kernel
theorem dX1_copyFrom_9 : decode cX1_copyFrom 9 = .ok (.getfield 9, 3) := by decide +kernel
theorem dX1_copyFrom_12 : decode cX1_copyFrom 12 = .ok (.iconst 0, 1) := by decide +kernel
theorem dX1_copyFrom_13 : decode cX1_copyFrom 13 = .ok (.aload_n 0, 1) := by decide +kernel
theorem dX1_copyFrom_14 : decode cX1_copyFrom 14 = .ok (.getfield 9, 3) := by decide +kernel
theorem dX1_copyFrom_17 : decode cX1_copyFrom 17 = .ok (.iconst 0, 1) := by decide +kernel
theorem dX1_copyFrom_18 : decode cX1_copyFrom 18 = .ok (.bipush 40, 2) := by decide +kernel
theorem dX1_copyFrom_20 : decode cX1_copyFrom 20 = .ok (.invokestatic 72, 3) := by decide +kernel
theorem dX1_copyFrom_23 : decode cX1_copyFrom 23 = .ok (.aload_n 1, 1) := by decide +kernel
theorem dX1_copyFrom_24 : decode cX1_copyFrom 24 = .ok (.getfield 15, 3) := by decide +kernel
theorem dX1_copyFrom_27 : decode cX1_copyFrom 27 = .ok (.iconst 0, 1) := by decide +kernel
theorem dX1_copyFrom_28 : decode cX1_copyFrom 28 = .ok (.aload_n 0, 1) := by decide +kernel
theorem dX1_copyFrom_29 : decode cX1_copyFrom 29 = .ok (.getfield 15, 3) := by decide +kernel
theorem dX1_copyFrom_32 : decode cX1_copyFrom 32 = .ok (.iconst 0, 1) := by decide +kernel
theorem dX1_copyFrom_33 : decode cX1_copyFrom 33 = .ok (.bipush 40, 2) := by decide +kernel
theorem dX1_copyFrom_35 : decode cX1_copyFrom 35 = .ok (.invokestatic 72, 3) := by decide +kernel
theorem dX1_copyFrom_38 : decode cX1_copyFrom 38 = .ok (.aload_n 1, 1) := by decide +kernel
theorem dX1_copyFrom_39 : decode cX1_copyFrom 39 = .ok (.getfield 18, 3) := by decide +kernel
theorem dX1_copyFrom_42 : decode cX1_copyFrom 42 = .ok (.iconst 0, 1) := by decide +kernel
theorem dX1_copyFrom_43 : decode cX1_copyFrom 43 = .ok (.aload_n 0, 1) := by decide +kernel
theorem dX1_copyFrom_44 : decode cX1_copyFrom 44 = .ok (.getfield 18, 3) := by decide +kernel
theorem dX1_copyFrom_47 : decode cX1_copyFrom 47 = .ok (.iconst 0, 1) := by decide +kernel
theorem dX1_copyFrom_48 : decode cX1_copyFrom 48 = .ok (.bipush 40, 2) := by decide +kernel
theorem dX1_copyFrom_50 : decode cX1_copyFrom 50 = .ok (.invokestatic 72, 3) := by decide +kernel
theorem dX1_copyFrom_53 : decode cX1_copyFrom 53 = .ok (.aload_n 1, 1) := by decide +kernel
theorem dX1_copyFrom_54 : decode cX1_copyFrom 54 = .ok (.getfield 21, 3) := by decide +kernel
theorem dX1_copyFrom_57 : decode cX1_copyFrom 57 = .ok (.iconst 0, 1) := by decide +kernel
theorem dX1_copyFrom_58 : decode cX1_copyFrom 58 = .ok (.aload_n 0, 1) := by decide +kernel
theorem dX1_copyFrom_59 : decode cX1_copyFrom 59 = .ok (.getfield 21, 3) := by decide +kernel
theorem dX1_copyFrom_62 : decode cX1_copyFrom 62 = .ok (.iconst 0, 1) := by decide +kernel
theorem dX1_copyFrom_63 : decode cX1_copyFrom 63 = .ok (.bipush 40, 2) := by decide +kernel
theorem dX1_copyFrom_65 : decode cX1_copyFrom 65 = .ok (.invokestatic 72, 3) := by decide +kernel
theorem dX1_copyFrom_68 : decode cX1_copyFrom 68 = .ok (.aload_n 1, 1) := by decide +kernel
theorem dX1_copyFrom_69 : decode cX1_copyFrom 69 = .ok (.getfield 24, 3) := by decide +kernel
theorem dX1_copyFrom_72 : decode cX1_copyFrom 72 = .ok (.iconst 0, 1) := by decide +kernel
theorem dX1_copyFrom_73 : decode cX1_copyFrom 73 = .ok (.aload_n 0, 1) := by decide +kernel
theorem dX1_copyFrom_74 : decode cX1_copyFrom 74 = .ok (.getfield 24, 3) := by decide +kernel
theorem dX1_copyFrom_77 : decode cX1_copyFrom 77 = .ok (.iconst 0, 1) := by decide +kernel
theorem dX1_copyFrom_78 : decode cX1_copyFrom 78 = .ok (.bipush 40, 2) := by decide +kernel
theorem dX1_copyFrom_80 : decode cX1_copyFrom 80 = .ok (.invokestatic 72, 3) := by decide +kernel
theorem dX1_copyFrom_83 : decode cX1_copyFrom 83 = .ok (.aload_n 1, 1) := by decide +kernel
theorem dX1_copyFrom_84 : decode cX1_copyFrom 84 = .ok (.getfield 27, 3) := by decide +kernel
theorem dX1_copyFrom_87 : decode cX1_copyFrom 87 = .ok (.iconst 0, 1) := by decide +kernel
theorem dX1_copyFrom_88 : decode cX1_copyFrom 88 = .ok (.aload_n 0, 1) := by decide +kernel
theorem dX1_copyFrom_89 : decode cX1_copyFrom 89 = .ok (.getfield 27, 3) := by decide +kernel
theorem dX1_copyFrom_92 : decode cX1_copyFrom 92 = .ok (.iconst 0, 1) := by decide +kernel
theorem dX1_copyFrom_93 : decode cX1_copyFrom 93 = .ok (.bipush 40, 2) := by decide +kernel
theorem dX1_copyFrom_95 : decode cX1_copyFrom 95 = .ok (.invokestatic 72, 3) := by decide +kernel
theorem dX1_copyFrom_98 : decode cX1_copyFrom 98 = .ok (.aload_n 1, 1) := by decide +kernel
theorem dX1_copyFrom_99 : decode cX1_copyFrom 99 = .ok (.getfield 30, 3) := by decide +kernel
theorem dX1_copyFrom_102 : decode cX1_copyFrom 102 = .ok (.iconst 0, 1) := by decide +kernel
theorem dX1_copyFrom_103 : decode cX1_copyFrom 103 = .ok (.aload_n 0, 1) := by decide +kernel
theorem dX1_copyFrom_104 : decode cX1_copyFrom 104 = .ok (.getfield 30, 3) := by decide +kernel
theorem dX1_copyFrom_107 : decode cX1_copyFrom 107 = .ok (.iconst 0, 1) := by decide +kernel
theorem dX1_copyFrom_108 : decode cX1_copyFrom 108 = .ok (.bipush 40, 2) := by decide +kernel
theorem dX1_copyFrom_110 : decode cX1_copyFrom 110 = .ok (.invokestatic 72, 3) := by decide +kernel
theorem dX1_copyFrom_113 : decode cX1_copyFrom 113 = .ok (.aload_n 0, 1) := by decide +kernel
theorem dX1_copyFrom_114 : decode cX1_copyFrom 114 = .ok (.aload_n 1, 1) := by decide +kernel
theorem dX1_copyFrom_115 : decode cX1_copyFrom 115 = .ok (.getfield 49, 3) := by decide +kernel
theorem dX1_copyFrom_118 : decode cX1_copyFrom 118 = .ok (.putfield 49, 3) := by decide +kernel
theorem dX1_copyFrom_121 : decode cX1_copyFrom 121 = .ok (.aload_n 1, 1) := by decide +kernel
theorem dX1_copyFrom_122 : decode cX1_copyFrom 122 = .ok (.getfield 33, 3) := by decide +kernel
theorem dX1_copyFrom_125 : decode cX1_copyFrom 125 = .ok (.iconst 0, 1) := by decide +kernel
theorem dX1_copyFrom_126 : decode cX1_copyFrom 126 = .ok (.aload_n 0, 1) := by decide +kernel
theorem dX1_copyFrom_127 : decode cX1_copyFrom 127 = .ok (.getfield 33, 3) := by decide +kernel
theorem dX1_copyFrom_130 : decode cX1_copyFrom 130 = .ok (.iconst 0, 1) := by decide +kernel
theorem dX1_copyFrom_131 : decode cX1_copyFrom 131 = .ok (.bipush 8, 2) := by decide +kernel
theorem dX1_copyFrom_133 : decode cX1_copyFrom 133 = .ok (.invokestatic 72, 3) := by decide +kernel
theorem dX1_copyFrom_136 : decode cX1_copyFrom 136 = .ok (.aload_n 1, 1) := by decide +kernel
theorem dX1_copyFrom_137 : decode cX1_copyFrom 137 = .ok (.getfield 36, 3) := by decide +kernel
theorem dX1_copyFrom_140 : decode cX1_copyFrom 140 = .ok (.iconst 0, 1) := by decide +kernel
theorem dX1_copyFrom_141 : decode cX1_copyFrom 141 = .ok (.aload_n 0, 1) := by decide +kernel
theorem dX1_copyFrom_142 : decode cX1_copyFrom 142 = .ok (.getfield 36, 3) := by decide +kernel
theorem dX1_copyFrom_145 : decode cX1_copyFrom 145 = .ok (.iconst 0, 1) := by decide +kernel
theorem dX1_copyFrom_146 : decode cX1_copyFrom 146 = .ok (.bipush 8, 2) := by decide +kernel
theorem dX1_copyFrom_148 : decode cX1_copyFrom 148 = .ok (.invokestatic 72, 3) := by decide +kernel
theorem dX1_copyFrom_151 : decode cX1_copyFrom 151 = .ok (.aload_n 1, 1) := by decide +kernel
theorem dX1_copyFrom_152 : decode cX1_copyFrom 152 = .ok (.getfield 39, 3) := by decide +kernel
theorem dX1_copyFrom_155 : decode cX1_copyFrom 155 = .ok (.iconst 0, 1) := by decide +kernel
theorem dX1_copyFrom_156 : decode cX1_copyFrom 156 = .ok (.aload_n 0, 1) := by decide +kernel
theorem dX1_copyFrom_157 : decode cX1_copyFrom 157 = .ok (.getfield 39, 3) := by decide +kernel
theorem dX1_copyFrom_160 : decode cX1_copyFrom 160 = .ok (.iconst 0, 1) := by decide +kernel
theorem dX1_copyFrom_161 : decode cX1_copyFrom 161 = .ok (.bipush 8, 2) := by decide +kernel
theorem dX1_copyFrom_163 : decode cX1_copyFrom 163 = .ok (.invokestatic 72, 3) := by decide +kernel
theorem dX1_copyFrom_166 : decode cX1_copyFrom 166 = .ok (.aload_n 0, 1) := by decide +kernel
theorem dX1_copyFrom_167 : decode cX1_copyFrom 167 = .ok (.aload_n 1, 1) := by decide +kernel
theorem dX1_copyFrom_168 : decode cX1_copyFrom 168 = .ok (.getfield 42, 3) := by decide +kernel
theorem dX1_copyFrom_171 : decode cX1_copyFrom 171 = .ok (.putfield 42, 3) := by decide +kernel
theorem dX1_copyFrom_174 : decode cX1_copyFrom 174 = .ok (.aload_n 0, 1) := by decide +kernel
theorem dX1_copyFrom_175 : decode cX1_copyFrom 175 = .ok (.aload_n 1, 1) := by decide +kernel
theorem dX1_copyFrom_176 : decode cX1_copyFrom 176 = .ok (.getfield 62, 3) := by decide +kernel
theorem dX1_copyFrom_179 : decode cX1_copyFrom 179 = .ok (.putfield 62, 3) := by decide +kernel
theorem dX1_copyFrom_182 : decode cX1_copyFrom 182 = .ok (.aload_n 0, 1) := by decide +kernel
theorem dX1_copyFrom_183 : decode cX1_copyFrom 183 = .ok (.aload_n 1, 1) := by decide +kernel
theorem dX1_copyFrom_184 : decode cX1_copyFrom 184 = .ok (.getfield 69, 3) := by decide +kernel
theorem dX1_copyFrom_187 : decode cX1_copyFrom 187 = .ok (.putfield 69, 3) := by decide +kernel
theorem dX1_copyFrom_190 : decode cX1_copyFrom 190 = .ok (.return_, 1) := by decide +kernel
theorem dX0_copyFrom_22 : decode cX0_copyFrom 22 = .ok (.aload_n 0, 1) := by decide +kernel
theorem dX0_copyFrom_23 : decode cX0_copyFrom 23 = .ok (.getfield 28, 3) := by decide +kernel
theorem dX0_copyFrom_26 : decode cX0_copyFrom 26 = .ok (.aload_n 1, 1) := by decide +kernel
theorem dX0_copyFrom_27 : decode cX0_copyFrom 27 = .ok (.getfield 28, 3) := by decide +kernel
theorem dX0_copyFrom_30 : decode cX0_copyFrom 30 = .ok (.invokevirtual 81, 3) := by decide +kernel
theorem dX10_copyFrom_0 : decode cX10_copyFrom 0 = .ok (.aload_n 0, 1) := by decide +kernel
theorem dX10_copyFrom_1 : decode cX10_copyFrom 1 = .ok (.aload_n 1, 1) := by decide +kernel
theorem dX10_copyFrom_2 : decode cX10_copyFrom 2 = .ok (.getfield 39, 3) := by decide +kernel
theorem dX10_copyFrom_5 : decode cX10_copyFrom 5 = .ok (.putfield 39, 3) := by decide +kernel
theorem dX10_copyFrom_8 : decode cX10_copyFrom 8 = .ok (.aload_n 1, 1) := by decide +kernel
theorem dX10_copyFrom_9 : decode cX10_copyFrom 9 = .ok (.getfield 9, 3) := by decide +kernel
theorem dX10_copyFrom_12 : decode cX10_copyFrom 12 = .ok (.iconst 0, 1) := by decide +kernel
theorem dX10_copyFrom_13 : decode cX10_copyFrom 13 = .ok (.aload_n 0, 1) := by decide +kernel
theorem dX10_copyFrom_14 : decode cX10_copyFrom 14 = .ok (.getfield 9, 3) := by decide +kernel
theorem dX10_copyFrom_17 : decode cX10_copyFrom 17 = .ok (.iconst 0, 1) := by decide +kernel
theorem dX10_copyFrom_18 : decode cX10_copyFrom 18 = .ok (.bipush 60, 2) := by decide +kernel
theorem dX10_copyFrom_20 : decode cX10_copyFrom 20 = .ok (.invokestatic 50, 3) := by decide +kernel
theorem dX10_copyFrom_23 : decode cX10_copyFrom 23 = .ok (.aload_n 1, 1) := by decide +kernel
theorem dX10_copyFrom_24 : decode cX10_copyFrom 24 = .ok (.getfield 15, 3) := by decide +kernel
theorem dX10_copyFrom_27 : decode cX10_copyFrom 27 = .ok (.iconst 0, 1) := by decide +kernel
theorem dX10_copyFrom_28 : decode cX10_copyFrom 28 = .ok (.aload_n 0, 1) := by decide +kernel
theorem dX10_copyFrom_29 : decode cX10_copyFrom 29 = .ok (.getfield 15, 3) := by decide +kernel
theorem dX10_copyFrom_32 : decode cX10_copyFrom 32 = .ok (.iconst 0, 1) := by decide +kernel
theorem dX10_copyFrom_33 : decode cX10_copyFrom 33 = .ok (.bipush 60, 2) := by decide +kernel
theorem dX10_copyFrom_35 : decode cX10_copyFrom 35 = .ok (.invokestatic 50, 3) := by decide +kernel
theorem dX10_copyFrom_38 : decode cX10_copyFrom 38 = .ok (.aload_n 1, 1) := by decide +kernel
theorem dX10_copyFrom_39 : decode cX10_copyFrom 39 = .ok (.getfield 18, 3) := by decide +kernel
theorem dX10_copyFrom_42 : decode cX10_copyFrom 42 = .ok (.iconst 0, 1) := by decide +kernel
theorem dX10_copyFrom_43 : decode cX10_copyFrom 43 = .ok (.aload_n 0, 1) := by decide +kernel
theorem dX10_copyFrom_44 : decode cX10_copyFrom 44 = .ok (.getfield 18, 3) := by decide +kernel
theorem dX10_copyFrom_47 : decode cX10_copyFrom 47 = .ok (.iconst 0, 1) := by decide +kernel
theorem dX10_copyFrom_48 : decode cX10_copyFrom 48 = .ok (.bipush 60, 2) := by decide +kernel
theorem dX10_copyFrom_50 : decode cX10_copyFrom 50 = .ok (.invokestatic 50, 3) := by decide +kernel
theorem dX10_copyFrom_53 : decode cX10_copyFrom 53 = .ok (.aload_n 1, 1) := by decide +kernel
theorem dX10_copyFrom_54 : decode cX10_copyFrom 54 = .ok (.getfield 21, 3) := by decide +kernel
theorem dX10_copyFrom_57 : decode cX10_copyFrom 57 = .ok (.iconst 0, 1) := by decide +kernel
theorem dX10_copyFrom_58 : decode cX10_copyFrom 58 = .ok (.aload_n 0, 1) := by decide +kernel
theorem dX10_copyFrom_59 : decode cX10_copyFrom 59 = .ok (.getfield 21, 3) := by decide +kernel
theorem dX10_copyFrom_62 : decode cX10_copyFrom 62 = .ok (.iconst 0, 1) := by decide +kernel
theorem dX10_copyFrom_63 : decode cX10_copyFrom 63 = .ok (.bipush 60, 2) := by decide +kernel
theorem dX10_copyFrom_65 : decode cX10_copyFrom 65 = .ok (.invokestatic 50, 3) := by decide +kernel
theorem dX10_copyFrom_68 : decode cX10_copyFrom 68 = .ok (.aload_n 1, 1) := by decide +kernel
theorem dX10_copyFrom_69 : decode cX10_copyFrom 69 = .ok (.getfield 24, 3) := by decide +kernel
theorem dX10_copyFrom_72 : decode cX10_copyFrom 72 = .ok (.iconst 0, 1) := by decide +kernel
theorem dX10_copyFrom_73 : decode cX10_copyFrom 73 = .ok (.aload_n 0, 1) := by decide +kernel
theorem dX10_copyFrom_74 : decode cX10_copyFrom 74 = .ok (.getfield 24, 3) := by decide +kernel
theorem dX10_copyFrom_77 : decode cX10_copyFrom 77 = .ok (.iconst 0, 1) := by decide +kernel
theorem dX10_copyFrom_78 : decode cX10_copyFrom 78 = .ok (.bipush 60, 2) := by decide +kernel
theorem dX10_copyFrom_80 : decode cX10_copyFrom 80 = .ok (.invokestatic 50, 3) := by decide +kernel
theorem dX10_copyFrom_83 : decode cX10_copyFrom 83 = .ok (.aload_n 1, 1) := by decide +kernel
theorem dX10_copyFrom_84 : decode cX10_copyFrom 84 = .ok (.getfield 27, 3) := by decide +kernel
theorem dX10_copyFrom_87 : decode cX10_copyFrom 87 = .ok (.iconst 0, 1) := by decide +kernel
theorem dX10_copyFrom_88 : decode cX10_copyFrom 88 = .ok (.aload_n 0, 1) := by decide +kernel
theorem dX10_copyFrom_89 : decode cX10_copyFrom 89 = .ok (.getfield 27, 3) := by decide +kernel
theorem dX10_copyFrom_92 : decode cX10_copyFrom 92 = .ok (.iconst 0, 1) := by decide +kernel
theorem dX10_copyFrom_93 : decode cX10_copyFrom 93 = .ok (.bipush 60, 2) := by decide +kernel
theorem dX10_copyFrom_95 : decode cX10_copyFrom 95 = .ok (.invokestatic 50, 3) := by decide +kernel
theorem dX10_copyFrom_98 : decode cX10_copyFrom 98 = .ok (.aload_n 0, 1) := by decide +kernel
theorem dX10_copyFrom_99 : decode cX10_copyFrom 99 = .ok (.aload_n 1, 1) := by decide +kernel
theorem dX10_copyFrom_100 : decode cX10_copyFrom 100 = .ok (.getfield 43, 3) := by decide +kernel
theorem dX10_copyFrom_103 : decode cX10_copyFrom 103 = .ok (.putfield 43, 3) := by decide +kernel
theorem dX10_copyFrom_106 : decode cX10_copyFrom 106 = .ok (.aload_n 1, 1) := by decide +kernel
theorem dX10_copyFrom_107 : decode cX10_copyFrom 107 = .ok (.getfield 30, 3) := by decide +kernel
theorem dX10_copyFrom_110 : decode cX10_copyFrom 110 = .ok (.iconst 0, 1) := by decide +kernel
theorem dX10_copyFrom_111 : decode cX10_copyFrom 111 = .ok (.aload_n 0, 1) := by decide +kernel
theorem dX10_copyFrom_112 : decode cX10_copyFrom 112 = .ok (.getfield 30, 3) := by decide +kernel
theorem dX10_copyFrom_115 : decode cX10_copyFrom 115 = .ok (.iconst 0, 1) := by decide +kernel
theorem dX10_copyFrom_116 : decode cX10_copyFrom 116 = .ok (.bipush 40, 2) := by decide +kernel
theorem dX10_copyFrom_118 : decode cX10_copyFrom 118 = .ok (.invokestatic 50, 3) := by decide +kernel
theorem dX10_copyFrom_121 : decode cX10_copyFrom 121 = .ok (.aload_n 1, 1) := by decide +kernel
theorem dX10_copyFrom_122 : decode cX10_copyFrom 122 = .ok (.getfield 33, 3) := by decide +kernel
theorem dX10_copyFrom_125 : decode cX10_copyFrom 125 = .ok (.iconst 0, 1) := by decide +kernel
theorem dX10_copyFrom_126 : decode cX10_copyFrom 126 = .ok (.aload_n 0, 1) := by decide +kernel
theorem dX10_copyFrom_127 : decode cX10_copyFrom 127 = .ok (.getfield 33, 3) := by decide +kernel
theorem dX10_copyFrom_130 : decode cX10_copyFrom 130 = .ok (.iconst 0, 1) := by decide +kernel
theorem dX10_copyFrom_131 : decode cX10_copyFrom 131 = .ok (.bipush 40, 2) := by decide +kernel
theorem dX10_copyFrom_133 : decode cX10_copyFrom 133 = .ok (.invokestatic 50, 3) := by decide +kernel
theorem dX10_copyFrom_136 : decode cX10_copyFrom 136 = .ok (.aload_n 1, 1) := by decide +kernel
theorem dX10_copyFrom_137 : decode cX10_copyFrom 137 = .ok (.getfield 36, 3) := by decide +kernel
theorem dX10_copyFrom_140 : decode cX10_copyFrom 140 = .ok (.iconst 0, 1) := by decide +kernel
theorem dX10_copyFrom_141 : decode cX10_copyFrom 141 = .ok (.aload_n 0, 1) := by decide +kernel
theorem dX10_copyFrom_142 : decode cX10_copyFrom 142 = .ok (.getfield 36, 3) := by decide +kernel
theorem dX10_copyFrom_145 : decode cX10_copyFrom 145 = .ok (.iconst 0, 1) := by decide +kernel
theorem dX10_copyFrom_146 : decode cX10_copyFrom 146 = .ok (.bipush 40, 2) := by decide +kernel
theorem dX10_copyFrom_148 : decode cX10_copyFrom 148 = .ok (.invokestatic 50, 3) := by decide +kernel
theorem dX10_copyFrom_151 : decode cX10_copyFrom 151 = .ok (.return_, 1) := by decide +kernel
theorem dX0_copyFrom_33 : decode cX0_copyFrom 33 = .ok (.aload_n 0, 1) := by decide +kernel
theorem dX0_copyFrom_34 : decode cX0_copyFrom 34 = .ok (.getfield 35, 3) := by decide +kernel
theorem dX0_copyFrom_37 : decode cX0_copyFrom 37 = .ok (.aload_n 1, 1) := by decide +kernel
theorem dX0_copyFrom_38 : decode cX0_copyFrom 38 = .ok (.getfield 35, 3) := by decide +kernel
theorem dX0_copyFrom_41 : decode cX0_copyFrom 41 = .ok (.invokevirtual 84, 3) := by decide +kernel
theorem dX7_copyFrom_0 : decode cX7_copyFrom 0 = .ok (.aload_n 1, 1) := by decide +kernel
theorem dX7_copyFrom_1 : decode cX7_copyFrom 1 = .ok (.getfield 9, 3) := by decide +kernel
theorem dX7_copyFrom_4 : decode cX7_copyFrom 4 = .ok (.iconst 0, 1) := by decide +kernel
theorem dX7_copyFrom_5 : decode cX7_copyFrom 5 = .ok (.aload_n 0, 1) := by decide +kernel
theorem dX7_copyFrom_6 : decode cX7_copyFrom 6 = .ok (.getfield 9, 3) := by decide +kernel
theorem dX7_copyFrom_9 : decode cX7_copyFrom 9 = .ok (.iconst 0, 1) := by decide +kernel
theorem dX7_copyFrom_10 : decode cX7_copyFrom 10 = .ok (.sipush 400, 3) := by decide +kernel
theorem dX7_copyFrom_13 : decode cX7_copyFrom 13 = .ok (.invokestatic 40, 3) := by decide +kernel
theorem dX7_copyFrom_16 : decode cX7_copyFrom 16 = .ok (.iconst 0, 1) := by decide +kernel
theorem dX7_copyFrom_17 : decode cX7_copyFrom 17 = .ok (.istore_n 2, 1) := by decide +kernel
theorem dX7_copyFrom_18 : decode cX7_copyFrom 18 = .ok (.iload_n 2, 1) := by decide +kernel
theorem dX7_copyFrom_19 : decode cX7_copyFrom 19 = .ok (.sipush 400, 3) := by decide +kernel
theorem dX7_copyFrom_22 : decode cX7_copyFrom 22 = .ok (.if_icmp .ge 21, 3) := by decide +kernel
theorem dX7_copyFrom_25 : decode cX7_copyFrom 25 = .ok (.aload_n 0, 1) := by decide +kernel
theorem dX7_copyFrom_26 : decode cX7_copyFrom 26 = .ok (.getfield 17, 3) := by decide +kernel
theorem dX7_copyFrom_29 : decode cX7_copyFrom 29 = .ok (.iload_n 2, 1) := by decide +kernel
theorem dX7_copyFrom_30 : decode cX7_copyFrom 30 = .ok (.aload_n 1, 1) := by decide +kernel
theorem dX7_copyFrom_31 : decode cX7_copyFrom 31 = .ok (.getfield 17, 3) := by decide +kernel
theorem dX7_copyFrom_34 : decode cX7_copyFrom 34 = .ok (.iload_n 2, 1) := by decide +kernel
theorem dX7_copyFrom_35 : decode cX7_copyFrom 35 = .ok (.aaload, 1) := by decide +kernel
theorem dX7_copyFrom_36 : decode cX7_copyFrom 36 = .ok (.aastore, 1) := by decide +kernel
theorem dX7_copyFrom_37 : decode cX7_copyFrom 37 = .ok (.iinc 2 1, 3) := by decide +kernel
theorem dX7_copyFrom_40 : decode cX7_copyFrom 40 = .ok (.goto (-22), 3) := by decide +kernel
theorem dX7_copyFrom_43 : decode cX7_copyFrom 43 = .ok (.return_, 1) := by decide +kernel
theorem dX0_copyFrom_44 : decode cX0_copyFrom 44 = .ok (.aload_n 0, 1) := by decide +kernel
theorem dX0_copyFrom_45 : decode cX0_copyFrom 45 = .ok (.getfield 42, 3) := by decide +kernel
theorem dX0_copyFrom_48 : decode cX0_copyFrom 48 = .ok (.aload_n 1, 1) := by decide +kernel
theorem dX0_copyFrom_49 : decode cX0_copyFrom 49 = .ok (.getfield 42, 3) := by decide +kernel
theorem dX0_copyFrom_52 : decode cX0_copyFrom 52 = .ok (.invokevirtual 87, 3) := by decide +kernel
theorem dX2_copyFrom_0 : decode cX2_copyFrom 0 = .ok (.aload_n 0, 1) := by decide +kernel
theorem dX2_copyFrom_1 : decode cX2_copyFrom 1 = .ok (.aload_n 1, 1) := by decide +kernel
theorem dX2_copyFrom_2 : decode cX2_copyFrom 2 = .ok (.getfield 24, 3) := by decide +kernel
theorem dX2_copyFrom_5 : decode cX2_copyFrom 5 = .ok (.putfield 24, 3) := by decide +kernel
theorem dX2_copyFrom_8 : decode cX2_copyFrom 8 = .ok (.iconst 0, 1) := by decide +kernel
theorem dX2_copyFrom_9 : decode cX2_copyFrom 9 = .ok (.istore_n 2, 1) := by decide +kernel
theorem dX2_copyFrom_10 : decode cX2_copyFrom 10 = .ok (.iload_n 2, 1) := by decide +kernel
theorem dX2_copyFrom_11 : decode cX2_copyFrom 11 = .ok (.bipush 20, 2) := by decide +kernel
theorem dX2_copyFrom_13 : decode cX2_copyFrom 13 = .ok (.if_icmp .ge 21, 3) := by decide +kernel
theorem dX2_copyFrom_16 : decode cX2_copyFrom 16 = .ok (.aload_n 0, 1) := by decide +kernel
theorem dX2_copyFrom_17 : decode cX2_copyFrom 17 = .ok (.getfield 11, 3) := by decide +kernel
theorem dX2_copyFrom_20 : decode cX2_copyFrom 20 = .ok (.iload_n 2, 1) := by decide +kernel
theorem dX2_copyFrom_21 : decode cX2_copyFrom 21 = .ok (.aload_n 1, 1) := by decide +kernel
theorem dX2_copyFrom_22 : decode cX2_copyFrom 22 = .ok (.getfield 11, 3) := by decide +kernel
theorem dX2_copyFrom_25 : decode cX2_copyFrom 25 = .ok (.iload_n 2, 1) := by decide +kernel
theorem dX2_copyFrom_26 : decode cX2_copyFrom 26 = .ok (.aaload, 1) := by decide +kernel
theorem dX2_copyFrom_27 : decode cX2_copyFrom 27 = .ok (.aastore, 1) := by decide +kernel
theorem dX2_copyFrom_28 : decode cX2_copyFrom 28 = .ok (.iinc 2 1, 3) := by decide +kernel
theorem dX2_copyFrom_31 : decode cX2_copyFrom 31 = .ok (.goto (-21), 3) := by decide +kernel
theorem dX2_copyFrom_34 : decode cX2_copyFrom 34 = .ok (.return_, 1) := by decide +kernel
theorem dX0_copyFrom_55 : decode cX0_copyFrom 55 = .ok (.aload_n 0, 1) := by decide +kernel
theorem dX0_copyFrom_56 : decode cX0_copyFrom 56 = .ok (.getfield 49, 3) := by decide +kernel
theorem dX0_copyFrom_59 : decode cX0_copyFrom 59 = .ok (.aload_n 1, 1) := by decide +kernel
theorem dX0_copyFrom_60 : decode cX0_copyFrom 60 = .ok (.getfield 49, 3) := by decide +kernel
theorem dX0_copyFrom_63 : decode cX0_copyFrom 63 = .ok (.invokevirtual 90, 3) := by decide +kernel
theorem dX3_copyFrom_0 : decode cX3_copyFrom 0 = .ok (.aload_n 0, 1) := by decide +kernel
theorem dX3_copyFrom_1 : decode cX3_copyFrom 1 = .ok (.aload_n 1, 1) := by decide +kernel
theorem dX3_copyFrom_2 : decode cX3_copyFrom 2 = .ok (.getfield 35, 3) := by decide +kernel
theorem dX3_copyFrom_5 : decode cX3_copyFrom 5 = .ok (.putfield 35, 3) := by decide +kernel
theorem dX3_copyFrom_8 : decode cX3_copyFrom 8 = .ok (.aload_n 0, 1) := by decide +kernel
theorem dX3_copyFrom_9 : decode cX3_copyFrom 9 = .ok (.aload_n 1, 1) := by decide +kernel
theorem dX3_copyFrom_10 : decode cX3_copyFrom 10 = .ok (.getfield 9, 3) := by decide +kernel
theorem dX3_copyFrom_13 : decode cX3_copyFrom 13 = .ok (.putfield 9, 3) := by decide +kernel
theorem dX3_copyFrom_16 : decode cX3_copyFrom 16 = .ok (.aload_n 0, 1) := by decide +kernel
theorem dX3_copyFrom_17 : decode cX3_copyFrom 17 = .ok (.aload_n 1, 1) := by decide +kernel
theorem dX3_copyFrom_18 : decode cX3_copyFrom 18 = .ok (.getfield 38, 3) := by decide +kernel
theorem dX3_copyFrom_21 : decode cX3_copyFrom 21 = .ok (.putfield 38, 3) := by decide +kernel
theorem dX3_copyFrom_24 : decode cX3_copyFrom 24 = .ok (.aload_n 0, 1) := by decide +kernel
theorem dX3_copyFrom_25 : decode cX3_copyFrom 25 = .ok (.aload_n 1, 1) := by decide +kernel
theorem dX3_copyFrom_26 : decode cX3_copyFrom 26 = .ok (.getfield 22, 3) := by decide +kernel
theorem dX3_copyFrom_29 : decode cX3_copyFrom 29 = .ok (.putfield 22, 3) := by decide +kernel
theorem dX3_copyFrom_32 : decode cX3_copyFrom 32 = .ok (.aload_n 1, 1) := by decide +kernel
theorem dX3_copyFrom_33 : decode cX3_copyFrom 33 = .ok (.getfield 15, 3) := by decide +kernel
theorem dX3_copyFrom_36 : decode cX3_copyFrom 36 = .ok (.iconst 0, 1) := by decide +kernel
theorem dX3_copyFrom_37 : decode cX3_copyFrom 37 = .ok (.aload_n 0, 1) := by decide +kernel
theorem dX3_copyFrom_38 : decode cX3_copyFrom 38 = .ok (.getfield 15, 3) := by decide +kernel
theorem dX3_copyFrom_41 : decode cX3_copyFrom 41 = .ok (.iconst 0, 1) := by decide +kernel
theorem dX3_copyFrom_42 : decode cX3_copyFrom 42 = .ok (.bipush 9, 2) := by decide +kernel
theorem dX3_copyFrom_44 : decode cX3_copyFrom 44 = .ok (.invokestatic 41, 3) := by decide +kernel
theorem dX3_copyFrom_47 : decode cX3_copyFrom 47 = .ok (.aload_n 1, 1) := by decide +kernel
theorem dX3_copyFrom_48 : decode cX3_copyFrom 48 = .ok (.getfield 19, 3) := by decide +kernel
theorem dX3_copyFrom_51 : decode cX3_copyFrom 51 = .ok (.iconst 0, 1) := by decide +kernel
theorem dX3_copyFrom_52 : decode cX3_copyFrom 52 = .ok (.aload_n 0, 1) := by decide +kernel
theorem dX3_copyFrom_53 : decode cX3_copyFrom 53 = .ok (.getfield 19, 3) := by decide +kernel
theorem dX3_copyFrom_56 : decode cX3_copyFrom 56 = .ok (.iconst 0, 1) := by decide +kernel
theorem dX3_copyFrom_57 : decode cX3_copyFrom 57 = .ok (.bipush 9, 2) := by decide +kernel
theorem dX3_copyFrom_59 : decode cX3_copyFrom 59 = .ok (.invokestatic 41, 3) := by decide +kernel
theorem dX3_copyFrom_62 : decode cX3_copyFrom 62 = .ok (.return_, 1) := by decide +kernel
theorem dX0_copyFrom_66 : decode cX0_copyFrom 66 = .ok (.aload_n 0, 1) := by decide +kernel
theorem dX0_copyFrom_67 : decode cX0_copyFrom 67 = .ok (.aload_n 1, 1) := by decide +kernel
theorem dX0_copyFrom_68 : decode cX0_copyFrom 68 = .ok (.getfield 93, 3) := by decide +kernel
theorem dX0_copyFrom_71 : decode cX0_copyFrom 71 = .ok (.putfield 93, 3) := by decide +kernel
theorem dX0_copyFrom_74 : decode cX0_copyFrom 74 = .ok (.aload_n 0, 1) := by decide +kernel
theorem dX0_copyFrom_75 : decode cX0_copyFrom 75 = .ok (.getfield 53, 3) := by decide +kernel
theorem dX0_copyFrom_78 : decode cX0_copyFrom 78 = .ok (.iconst (-1), 1) := by decide +kernel
theorem dX0_copyFrom_79 : decode cX0_copyFrom 79 = .ok (.invokestatic 68, 3) := by decide +kernel
theorem dX0_copyFrom_82 : decode cX0_copyFrom 82 = .ok (.aload_n 0, 1) := by decide +kernel
theorem dX0_copyFrom_83 : decode cX0_copyFrom 83 = .ok (.iconst 0, 1) := by decide +kernel
theorem dX0_copyFrom_84 : decode cX0_copyFrom 84 = .ok (.putfield 97, 3) := by decide +kernel
theorem dX0_copyFrom_87 : decode cX0_copyFrom 87 = .ok (.aload_n 0, 1) := by decide +kernel
theorem dX0_copyFrom_88 : decode cX0_copyFrom 88 = .ok (.iconst 0, 1) := by decide +kernel
theorem dX0_copyFrom_89 : decode cX0_copyFrom 89 = .ok (.putfield 100, 3) := by decide +kernel
theorem dX0_copyFrom_92 : decode cX0_copyFrom 92 = .ok (.aload_n 0, 1) := by decide +kernel
theorem dX0_copyFrom_93 : decode cX0_copyFrom 93 = .ok (.lconst 0, 1) := by decide +kernel
theorem dX0_copyFrom_94 : decode cX0_copyFrom 94 = .ok (.putfield 103, 3) := by decide +kernel
theorem dX0_copyFrom_97 : decode cX0_copyFrom 97 = .ok (.return_, 1) := by decide +kernel
theorem dX0_drawOf_0 : decode cX0_drawOf 0 = .ok (.lconst 0, 1) := by decide +kernel
theorem dX0_drawOf_1 : decode cX0_drawOf 1 = .ok (.lstore_n 2, 1) := by decide +kernel
theorem dX0_drawOf_2 : decode cX0_drawOf 2 = .ok (.iconst 0, 1) := by decide +kernel
theorem dX0_drawOf_3 : decode cX0_drawOf 3 = .ok (.istore 4, 2) := by decide +kernel
theorem dX0_drawOf_5 : decode cX0_drawOf 5 = .ok (.iload 4, 2) := by decide +kernel
theorem dX0_drawOf_7 : decode cX0_drawOf 7 = .ok (.aload_n 0, 1) := by decide +kernel
theorem dX0_drawOf_8 : decode cX0_drawOf 8 = .ok (.getfield 42, 3) := by decide +kernel
theorem dX0_drawOf_11 : decode cX0_drawOf 11 = .ok (.getfield 286, 3) := by decide +kernel
theorem dX0_drawOf_14 : decode cX0_drawOf 14 = .ok (.if_icmp .ge 103, 3) := by decide +kernel
theorem dX0_drawOf_17 : decode cX0_drawOf 17 = .ok (.aload_n 0, 1) := by decide +kernel
theorem dX0_drawOf_18 : decode cX0_drawOf 18 = .ok (.getfield 42, 3) := by decide +kernel
theorem dX0_drawOf_21 : decode cX0_drawOf 21 = .ok (.getfield 287, 3) := by decide +kernel
theorem dX0_drawOf_24 : decode cX0_drawOf 24 = .ok (.iload 4, 2) := by decide +kernel
theorem dX0_drawOf_26 : decode cX0_drawOf 26 = .ok (.aaload, 1) := by decide +kernel
theorem dX0_drawOf_27 : decode cX0_drawOf 27 = .ok (.astore 5, 2) := by decide +kernel
theorem dX0_drawOf_29 : decode cX0_drawOf 29 = .ok (.iconst 0, 1) := by decide +kernel
theorem dX0_drawOf_30 : decode cX0_drawOf 30 = .ok (.istore 6, 2) := by decide +kernel
theorem dX0_drawOf_32 : decode cX0_drawOf 32 = .ok (.aload 5, 2) := by decide +kernel
theorem dX0_drawOf_34 : decode cX0_drawOf 34 = .ok (.ifnull 77, 3) := by decide +kernel
theorem dX0_drawOf_111 : decode cX0_drawOf 111 = .ok (.iinc 4 1, 3) := by decide +kernel
theorem dX0_drawOf_114 : decode cX0_drawOf 114 = .ok (.goto (-109), 3) := by decide +kernel
theorem dX0_drawOf_37 : decode cX0_drawOf 37 = .ok (.iload 6, 2) := by decide +kernel
theorem dX0_drawOf_39 : decode cX0_drawOf 39 = .ok (.aload 5, 2) := by decide +kernel
theorem dX0_drawOf_41 : decode cX0_drawOf 41 = .ok (.getfield 291, 3) := by decide +kernel
theorem dX0_drawOf_44 : decode cX0_drawOf 44 = .ok (.if_icmp .ge 67, 3) := by decide +kernel
theorem dX0_drawOf_47 : decode cX0_drawOf 47 = .ok (.aload 5, 2) := by decide +kernel
theorem dX0_drawOf_49 : decode cX0_drawOf 49 = .ok (.getfield 296, 3) := by decide +kernel
theorem dX0_drawOf_52 : decode cX0_drawOf 52 = .ok (.iload 6, 2) := by decide +kernel
theorem dX0_drawOf_54 : decode cX0_drawOf 54 = .ok (.iaload, 1) := by decide +kernel
theorem dX0_drawOf_55 : decode cX0_drawOf 55 = .ok (.sipush 261, 3) := by decide +kernel
theorem dX0_drawOf_58 : decode cX0_drawOf 58 = .ok (.if_icmp .ne 47, 3) := by decide +kernel
theorem dX0_drawOf_61 : decode cX0_drawOf 61 = .ok (.aload_n 0, 1) := by decide +kernel
theorem dX0_drawOf_62 : decode cX0_drawOf 62 = .ok (.getfield 42, 3) := by decide +kernel
theorem dX0_drawOf_65 : decode cX0_drawOf 65 = .ok (.iload 4, 2) := by decide +kernel
theorem dX0_drawOf_67 : decode cX0_drawOf 67 = .ok (.iload 6, 2) := by decide +kernel
theorem dX0_drawOf_69 : decode cX0_drawOf 69 = .ok (.invokevirtual 299, 3) := by decide +kernel
theorem dX0_drawOf_72 : decode cX0_drawOf 72 = .ok (.ifCond .eq 33, 3) := by decide +kernel
theorem dX0_drawOf_75 : decode cX0_drawOf 75 = .ok (.aload_n 0, 1) := by decide +kernel
theorem dX0_drawOf_76 : decode cX0_drawOf 76 = .ok (.aload 5, 2) := by decide +kernel
theorem dX0_drawOf_78 : decode cX0_drawOf 78 = .ok (.iload 6, 2) := by decide +kernel
theorem dX0_drawOf_80 : decode cX0_drawOf 80 = .ok (.iload_n 1, 1) := by decide +kernel
theorem dX0_drawOf_81 : decode cX0_drawOf 81 = .ok (.iconst (-1), 1) := by decide +kernel
theorem dX0_drawOf_82 : decode cX0_drawOf 82 = .ok (.invokevirtual 302, 3) := by decide +kernel
theorem dX0_drawOf_85 : decode cX0_drawOf 85 = .ok (.lstore 7, 2) := by decide +kernel
theorem dX0_drawOf_87 : decode cX0_drawOf 87 = .ok (.lload_n 2, 1) := by decide +kernel
theorem dX0_drawOf_88 : decode cX0_drawOf 88 = .ok (.lload 7, 2) := by decide +kernel
theorem dX0_drawOf_90 : decode cX0_drawOf 90 = .ok (.ldc2_w 306, 3) := by decide +kernel
theorem dX0_drawOf_93 : decode cX0_drawOf 93 = .ok (.lcmp, 1) := by decide +kernel
theorem dX0_drawOf_94 : decode cX0_drawOf 94 = .ok (.ifCond .ne 7, 3) := by decide +kernel
theorem dX0_drawOf_101 : decode cX0_drawOf 101 = .ok (.lload 7, 2) := by decide +kernel
theorem dX0_drawOf_97 : decode cX0_drawOf 97 = .ok (.lconst 0, 1) := by decide +kernel
theorem dX0_drawOf_98 : decode cX0_drawOf 98 = .ok (.goto 5, 3) := by decide +kernel
theorem dX0_drawOf_103 : decode cX0_drawOf 103 = .ok (.ladd, 1) := by decide +kernel
theorem dX0_drawOf_104 : decode cX0_drawOf 104 = .ok (.lstore_n 2, 1) := by decide +kernel
theorem dX0_drawOf_105 : decode cX0_drawOf 105 = .ok (.iinc 6 1, 3) := by decide +kernel
theorem dX0_drawOf_108 : decode cX0_drawOf 108 = .ok (.goto (-76), 3) := by decide +kernel
theorem dX0_drawOf_117 : decode cX0_drawOf 117 = .ok (.lload_n 2, 1) := by decide +kernel
theorem dX0_drawOf_118 : decode cX0_drawOf 118 = .ok (.lreturn, 1) := by decide +kernel
theorem dX0_falls_0 : decode cX0_falls 0 = .ok (.lload_n 0, 1) := by decide +kernel
theorem dX0_falls_1 : decode cX0_falls 1 = .ok (.lstore 7, 2) := by decide +kernel
theorem dX0_falls_3 : decode cX0_falls 3 = .ok (.iconst 0, 1) := by decide +kernel
theorem dX0_falls_4 : decode cX0_falls 4 = .ok (.istore 9, 2) := by decide +kernel
theorem dX0_falls_6 : decode cX0_falls 6 = .ok (.iload 9, 2) := by decide +kernel
theorem dX0_falls_8 : decode cX0_falls 8 = .ok (.iload 6, 2) := by decide +kernel
theorem dX0_falls_10 : decode cX0_falls 10 = .ok (.if_icmp .ge 27, 3) := by decide +kernel
theorem dX0_falls_13 : decode cX0_falls 13 = .ok (.lload 7, 2) := by decide +kernel
theorem dX0_falls_15 : decode cX0_falls 15 = .ok (.lload_n 2, 1) := by decide +kernel
theorem dX0_falls_16 : decode cX0_falls 16 = .ok (.lload 4, 2) := by decide +kernel
theorem dX0_falls_18 : decode cX0_falls 18 = .ok (.lsub, 1) := by decide +kernel
theorem dX0_falls_19 : decode cX0_falls 19 = .ok (.ladd, 1) := by decide +kernel
theorem dX0_falls_20 : decode cX0_falls 20 = .ok (.lstore 7, 2) := by decide +kernel
theorem dX0_falls_22 : decode cX0_falls 22 = .ok (.lload 7, 2) := by decide +kernel
theorem dX0_falls_24 : decode cX0_falls 24 = .ok (.lconst 0, 1) := by decide +kernel
theorem dX0_falls_25 : decode cX0_falls 25 = .ok (.lcmp, 1) := by decide +kernel
theorem dX0_falls_26 : decode cX0_falls 26 = .ok (.ifCond .ge 5, 3) := by decide +kernel
theorem dX0_falls_31 : decode cX0_falls 31 = .ok (.iinc 9 1, 3) := by decide +kernel
theorem dX0_falls_34 : decode cX0_falls 34 = .ok (.goto (-28), 3) := by decide +kernel
theorem dX0_falls_29 : decode cX0_falls 29 = .ok (.iconst 1, 1) := by decide +kernel
theorem dX0_falls_30 : decode cX0_falls 30 = .ok (.ireturn, 1) := by decide +kernel
theorem dX0_falls_37 : decode cX0_falls 37 = .ok (.iconst 0, 1) := by decide +kernel
theorem dX0_falls_38 : decode cX0_falls 38 = .ok (.ireturn, 1) := by decide +kernel
theorem dX0_fewestKept_0 : decode cX0_fewestKept 0 = .ok (.lconst 0, 1) := by decide +kernel
theorem dX0_fewestKept_1 : decode cX0_fewestKept 1 = .ok (.lstore_n 3, 1) := by decide +kernel
theorem dX0_fewestKept_2 : decode cX0_fewestKept 2 = .ok (.iconst 0, 1) := by decide +kernel
theorem dX0_fewestKept_3 : decode cX0_fewestKept 3 = .ok (.istore 5, 2) := by decide +kernel
theorem dX0_fewestKept_5 : decode cX0_fewestKept 5 = .ok (.iconst 0, 1) := by decide +kernel
theorem dX0_fewestKept_6 : decode cX0_fewestKept 6 = .ok (.istore 6, 2) := by decide +kernel
theorem dX0_fewestKept_8 : decode cX0_fewestKept 8 = .ok (.iload 6, 2) := by decide +kernel
theorem dX0_fewestKept_10 : decode cX0_fewestKept 10 = .ok (.aload_n 0, 1) := by decide +kernel
theorem dX0_fewestKept_11 : decode cX0_fewestKept 11 = .ok (.getfield 21, 3) := by decide +kernel
theorem dX0_fewestKept_14 : decode cX0_fewestKept 14 = .ok (.getfield 171, 3) := by decide +kernel
theorem dX0_fewestKept_17 : decode cX0_fewestKept 17 = .ok (.if_icmp .ge 76, 3) := by decide +kernel
theorem dX0_fewestKept_20 : decode cX0_fewestKept 20 = .ok (.aload_n 0, 1) := by decide +kernel
theorem dX0_fewestKept_21 : decode cX0_fewestKept 21 = .ok (.getfield 21, 3) := by decide +kernel
theorem dX0_fewestKept_24 : decode cX0_fewestKept 24 = .ok (.getfield 204, 3) := by decide +kernel
theorem dX0_fewestKept_27 : decode cX0_fewestKept 27 = .ok (.iload 6, 2) := by decide +kernel
theorem dX0_fewestKept_29 : decode cX0_fewestKept 29 = .ok (.iaload, 1) := by decide +kernel
theorem dX0_fewestKept_30 : decode cX0_fewestKept 30 = .ok (.iload_n 1, 1) := by decide +kernel
theorem dX0_fewestKept_31 : decode cX0_fewestKept 31 = .ok (.if_icmp .ne 56, 3) := by decide +kernel
theorem dX0_fewestKept_34 : decode cX0_fewestKept 34 = .ok (.aload_n 0, 1) := by decide +kernel
theorem dX0_fewestKept_35 : decode cX0_fewestKept 35 = .ok (.getfield 21, 3) := by decide +kernel
theorem dX0_fewestKept_38 : decode cX0_fewestKept 38 = .ok (.getfield 124, 3) := by decide +kernel
theorem dX0_fewestKept_41 : decode cX0_fewestKept 41 = .ok (.iload 6, 2) := by decide +kernel
theorem dX0_fewestKept_43 : decode cX0_fewestKept 43 = .ok (.iaload, 1) := by decide +kernel
theorem dX0_fewestKept_44 : decode cX0_fewestKept 44 = .ok (.iconst (-1), 1) := by decide +kernel
theorem dX0_fewestKept_45 : decode cX0_fewestKept 45 = .ok (.if_icmp .eq 42, 3) := by decide +kernel
theorem dX0_fewestKept_48 : decode cX0_fewestKept 48 = .ok (.lload_n 3, 1) := by decide +kernel
theorem dX0_fewestKept_49 : decode cX0_fewestKept 49 = .ok (.aload_n 0, 1) := by decide +kernel
theorem dX0_fewestKept_50 : decode cX0_fewestKept 50 = .ok (.getfield 21, 3) := by decide +kernel
theorem dX0_fewestKept_53 : decode cX0_fewestKept 53 = .ok (.iload 6, 2) := by decide +kernel
theorem dX0_fewestKept_55 : decode cX0_fewestKept 55 = .ok (.invokevirtual 185, 3) := by decide +kernel
theorem dX0_fewestKept_58 : decode cX0_fewestKept 58 = .ok (.i2l, 1) := by decide +kernel
theorem dX0_fewestKept_59 : decode cX0_fewestKept 59 = .ok (.ladd, 1) := by decide +kernel
theorem dX0_fewestKept_60 : decode cX0_fewestKept 60 = .ok (.lstore_n 3, 1) := by decide +kernel
theorem dX0_fewestKept_61 : decode cX0_fewestKept 61 = .ok (.aload_n 0, 1) := by decide +kernel
theorem dX0_fewestKept_62 : decode cX0_fewestKept 62 = .ok (.getfield 61, 3) := by decide +kernel
theorem dX0_fewestKept_65 : decode cX0_fewestKept 65 = .ok (.iload 5, 2) := by decide +kernel
theorem dX0_fewestKept_67 : decode cX0_fewestKept 67 = .ok (.aload_n 0, 1) := by decide +kernel
theorem dX0_fewestKept_68 : decode cX0_fewestKept 68 = .ok (.getfield 21, 3) := by decide +kernel
theorem dX0_fewestKept_71 : decode cX0_fewestKept 71 = .ok (.iload 6, 2) := by decide +kernel
theorem dX0_fewestKept_73 : decode cX0_fewestKept 73 = .ok (.invokevirtual 185, 3) := by decide +kernel
theorem dX0_fewestKept_76 : decode cX0_fewestKept 76 = .ok (.aload_n 0, 1) := by decide +kernel
theorem dX0_fewestKept_77 : decode cX0_fewestKept 77 = .ok (.iload 6, 2) := by decide +kernel
theorem dX0_fewestKept_79 : decode cX0_fewestKept 79 = .ok (.invokevirtual 195, 3) := by decide +kernel
theorem dX0_fewestKept_82 : decode cX0_fewestKept 82 = .ok (.isub, 1) := by decide +kernel
theorem dX0_fewestKept_83 : decode cX0_fewestKept 83 = .ok (.iastore, 1) := by decide +kernel
theorem dX0_fewestKept_84 : decode cX0_fewestKept 84 = .ok (.iinc 5 1, 3) := by decide +kernel
theorem dX0_fewestKept_87 : decode cX0_fewestKept 87 = .ok (.iinc 6 1, 3) := by decide +kernel
theorem dX0_fewestKept_90 : decode cX0_fewestKept 90 = .ok (.goto (-82), 3) := by decide +kernel
theorem dX0_fewestKept_93 : decode cX0_fewestKept 93 = .ok (.iconst 0, 1) := by decide +kernel
theorem dX0_fewestKept_94 : decode cX0_fewestKept 94 = .ok (.istore 6, 2) := by decide +kernel
theorem dX0_fewestKept_96 : decode cX0_fewestKept 96 = .ok (.iload 6, 2) := by decide +kernel
theorem dX0_fewestKept_98 : decode cX0_fewestKept 98 = .ok (.iload 5, 2) := by decide +kernel
theorem dX0_fewestKept_100 : decode cX0_fewestKept 100 = .ok (.if_icmp .gt 50, 3) := by decide +kernel
theorem dX0_fewestKept_103 : decode cX0_fewestKept 103 = .ok (.aload_n 0, 1) := by decide +kernel
theorem dX0_fewestKept_104 : decode cX0_fewestKept 104 = .ok (.getfield 21, 3) := by decide +kernel
theorem dX0_fewestKept_107 : decode cX0_fewestKept 107 = .ok (.getfield 201, 3) := by decide +kernel
theorem dX0_fewestKept_110 : decode cX0_fewestKept 110 = .ok (.iload_n 1, 1) := by decide +kernel
theorem dX0_fewestKept_111 : decode cX0_fewestKept 111 = .ok (.iaload, 1) := by decide +kernel
theorem dX0_fewestKept_112 : decode cX0_fewestKept 112 = .ok (.i2l, 1) := by decide +kernel
theorem dX0_fewestKept_113 : decode cX0_fewestKept 113 = .ok (.lload_n 3, 1) := by decide +kernel
theorem dX0_fewestKept_114 : decode cX0_fewestKept 114 = .ok (.aload_n 0, 1) := by decide +kernel
theorem dX0_fewestKept_115 : decode cX0_fewestKept 115 = .ok (.getfield 21, 3) := by decide +kernel
theorem dX0_fewestKept_118 : decode cX0_fewestKept 118 = .ok (.getfield 222, 3) := by decide +kernel
theorem dX0_fewestKept_121 : decode cX0_fewestKept 121 = .ok (.iload_n 1, 1) := by decide +kernel
theorem dX0_fewestKept_122 : decode cX0_fewestKept 122 = .ok (.iaload, 1) := by decide +kernel
theorem dX0_fewestKept_123 : decode cX0_fewestKept 123 = .ok (.i2l, 1) := by decide +kernel
theorem dX0_fewestKept_124 : decode cX0_fewestKept 124 = .ok (.iload_n 2, 1) := by decide +kernel
theorem dX0_fewestKept_125 : decode cX0_fewestKept 125 = .ok (.invokestatic 357, 3) := by decide +kernel
theorem dX0_fewestKept_128 : decode cX0_fewestKept 128 = .ok (.ifCond .eq 6, 3) := by decide +kernel
theorem dX0_fewestKept_134 : decode cX0_fewestKept 134 = .ok (.lload_n 3, 1) := by decide +kernel
theorem dX0_fewestKept_135 : decode cX0_fewestKept 135 = .ok (.aload_n 0, 1) := by decide +kernel
theorem dX0_fewestKept_136 : decode cX0_fewestKept 136 = .ok (.iload 5, 2) := by decide +kernel
theorem dX0_fewestKept_138 : decode cX0_fewestKept 138 = .ok (.invokevirtual 361, 3) := by decide +kernel
theorem dX0_takeMostSpared_0 : decode cX0_takeMostSpared 0 = .ok (.iconst 0, 1) := by decide +kernel
theorem dX0_takeMostSpared_1 : decode cX0_takeMostSpared 1 = .ok (.istore_n 2, 1) := by decide +kernel
theorem dX0_takeMostSpared_2 : decode cX0_takeMostSpared 2 = .ok (.iconst 0, 1) := by decide +kernel
theorem dX0_takeMostSpared_3 : decode cX0_takeMostSpared 3 = .ok (.istore_n 3, 1) := by decide +kernel
theorem dX0_takeMostSpared_4 : decode cX0_takeMostSpared 4 = .ok (.iconst 0, 1) := by decide +kernel
theorem dX0_takeMostSpared_5 : decode cX0_takeMostSpared 5 = .ok (.istore 4, 2) := by decide +kernel
theorem dX0_takeMostSpared_7 : decode cX0_takeMostSpared 7 = .ok (.iload 4, 2) := by decide +kernel
theorem dX0_takeMostSpared_9 : decode cX0_takeMostSpared 9 = .ok (.iload_n 1, 1) := by decide +kernel
theorem dX0_takeMostSpared_10 : decode cX0_takeMostSpared 10 = .ok (.if_icmp .ge 31, 3) := by decide +kernel
theorem dX0_takeMostSpared_13 : decode cX0_takeMostSpared 13 = .ok (.aload_n 0, 1) := by decide +kernel
theorem dX0_takeMostSpared_14 : decode cX0_takeMostSpared 14 = .ok (.getfield 61, 3) := by decide +kernel
theorem dX0_takeMostSpared_17 : decode cX0_takeMostSpared 17 = .ok (.iload 4, 2) := by decide +kernel
theorem dX0_takeMostSpared_19 : decode cX0_takeMostSpared 19 = .ok (.iaload, 1) := by decide +kernel
theorem dX0_takeMostSpared_20 : decode cX0_takeMostSpared 20 = .ok (.iload_n 2, 1) := by decide +kernel
theorem dX0_takeMostSpared_21 : decode cX0_takeMostSpared 21 = .ok (.if_icmp .le 14, 3) := by decide +kernel
theorem dX0_takeMostSpared_24 : decode cX0_takeMostSpared 24 = .ok (.aload_n 0, 1) := by decide +kernel
theorem dX0_takeMostSpared_25 : decode cX0_takeMostSpared 25 = .ok (.getfield 61, 3) := by decide +kernel
theorem dX0_takeMostSpared_28 : decode cX0_takeMostSpared 28 = .ok (.iload 4, 2) := by decide +kernel
theorem dX0_takeMostSpared_30 : decode cX0_takeMostSpared 30 = .ok (.iaload, 1) := by decide +kernel
theorem dX0_takeMostSpared_31 : decode cX0_takeMostSpared 31 = .ok (.istore_n 2, 1) := by decide +kernel
theorem dX0_takeMostSpared_32 : decode cX0_takeMostSpared 32 = .ok (.iload 4, 2) := by decide +kernel
theorem dX0_takeMostSpared_34 : decode cX0_takeMostSpared 34 = .ok (.istore_n 3, 1) := by decide +kernel
theorem dX0_takeMostSpared_35 : decode cX0_takeMostSpared 35 = .ok (.iinc 4 1, 3) := by decide +kernel
theorem dX0_takeMostSpared_38 : decode cX0_takeMostSpared 38 = .ok (.goto (-31), 3) := by decide +kernel
theorem dX0_takeMostSpared_41 : decode cX0_takeMostSpared 41 = .ok (.aload_n 0, 1) := by decide +kernel
theorem dX0_takeMostSpared_42 : decode cX0_takeMostSpared 42 = .ok (.getfield 61, 3) := by decide +kernel
theorem dX0_takeMostSpared_45 : decode cX0_takeMostSpared 45 = .ok (.iload_n 3, 1) := by decide +kernel
theorem dX0_takeMostSpared_46 : decode cX0_takeMostSpared 46 = .ok (.iconst 0, 1) := by decide +kernel
theorem dX0_takeMostSpared_47 : decode cX0_takeMostSpared 47 = .ok (.iastore, 1) := by decide +kernel
theorem dX0_takeMostSpared_48 : decode cX0_takeMostSpared 48 = .ok (.iload_n 2, 1) := by decide +kernel
theorem dX0_takeMostSpared_49 : decode cX0_takeMostSpared 49 = .ok (.ireturn, 1) := by decide +kernel
theorem dX0_fewestKept_141 : decode cX0_fewestKept 141 = .ok (.i2l, 1) := by decide +kernel
theorem dX0_fewestKept_142 : decode cX0_fewestKept 142 = .ok (.lsub, 1) := by decide +kernel
theorem dX0_fewestKept_143 : decode cX0_fewestKept 143 = .ok (.lstore_n 3, 1) := by decide +kernel
theorem dX0_fewestKept_144 : decode cX0_fewestKept 144 = .ok (.iinc 6 1, 3) := by decide +kernel
theorem dX0_fewestKept_147 : decode cX0_fewestKept 147 = .ok (.goto (-51), 3) := by decide +kernel
theorem dX0_fewestKept_131 : decode cX0_fewestKept 131 = .ok (.iload 6, 2) := by decide +kernel
theorem dX0_fewestKept_133 : decode cX0_fewestKept 133 = .ok (.ireturn, 1) := by decide +kernel
theorem dX0_fewestKept_150 : decode cX0_fewestKept 150 = .ok (.iconst (-1), 1) := by decide +kernel
theorem dX0_fewestKept_151 : decode cX0_fewestKept 151 = .ok (.ireturn, 1) := by decide +kernel
theorem dX0_keepsFor_0 : decode cX0_keepsFor 0 = .ok (.iload_n 1, 1) := by decide +kernel
theorem dX0_keepsFor_1 : decode cX0_keepsFor 1 = .ok (.iconst (-1), 1) := by decide +kernel
theorem dX0_keepsFor_2 : decode cX0_keepsFor 2 = .ok (.if_icmp .eq 19, 3) := by decide +kernel
theorem dX0_keepsFor_21 : decode cX0_keepsFor 21 = .ok (.iconst 0, 1) := by decide +kernel
theorem dX0_keepsFor_5 : decode cX0_keepsFor 5 = .ok (.aload_n 0, 1) := by decide +kernel
theorem dX0_keepsFor_6 : decode cX0_keepsFor 6 = .ok (.sipush 262, 3) := by decide +kernel
theorem dX0_keepsFor_9 : decode cX0_keepsFor 9 = .ok (.iload_n 1, 1) := by decide +kernel
theorem dX0_keepsFor_10 : decode cX0_keepsFor 10 = .ok (.iload_n 2, 1) := by decide +kernel
theorem dX0_keepsFor_11 : decode cX0_keepsFor 11 = .ok (.invokevirtual 191, 3) := by decide +kernel
theorem dX0_keepsFor_14 : decode cX0_keepsFor 14 = .ok (.ifCond .eq 7, 3) := by decide +kernel
theorem dX0_keepsFor_17 : decode cX0_keepsFor 17 = .ok (.iconst 1, 1) := by decide +kernel
theorem dX0_keepsFor_18 : decode cX0_keepsFor 18 = .ok (.goto 4, 3) := by decide +kernel
theorem dX0_keepsFor_22 : decode cX0_keepsFor 22 = .ok (.ireturn, 1) := by decide +kernel
theorem dX0_lookAtNow_0 : decode cX0_lookAtNow 0 = .ok (.aload_n 0, 1) := by decide +kernel
theorem dX0_lookAtNow_1 : decode cX0_lookAtNow 1 = .ok (.getfield 42, 3) := by decide +kernel
theorem dX0_lookAtNow_4 : decode cX0_lookAtNow 4 = .ok (.aload_n 0, 1) := by decide +kernel
theorem dX0_lookAtNow_5 : decode cX0_lookAtNow 5 = .ok (.getfield 93, 3) := by decide +kernel
theorem dX0_lookAtNow_8 : decode cX0_lookAtNow 8 = .ok (.invokevirtual 113, 3) := by decide +kernel
theorem dX2_mark_0 : decode cX2_mark 0 = .ok (.aload_n 0, 1) := by decide +kernel
theorem dX2_mark_1 : decode cX2_mark 1 = .ok (.getfield 21, 3) := by decide +kernel
theorem dX2_mark_4 : decode cX2_mark 4 = .ok (.iconst 0, 1) := by decide +kernel
theorem dX2_mark_5 : decode cX2_mark 5 = .ok (.invokestatic 31, 3) := by decide +kernel
theorem dX2_mark_8 : decode cX2_mark 8 = .ok (.aload_n 0, 1) := by decide +kernel
theorem dX2_mark_9 : decode cX2_mark 9 = .ok (.getfield 24, 3) := by decide +kernel
theorem dX2_mark_12 : decode cX2_mark 12 = .ok (.iconst 1, 1) := by decide +kernel
theorem dX2_mark_13 : decode cX2_mark 13 = .ok (.isub, 1) := by decide +kernel
theorem dX2_mark_14 : decode cX2_mark 14 = .ok (.istore_n 2, 1) := by decide +kernel
theorem dX2_mark_15 : decode cX2_mark 15 = .ok (.iload_n 2, 1) := by decide +kernel
theorem dX2_mark_16 : decode cX2_mark 16 = .ok (.ifCond .lt 148, 3) := by decide +kernel
theorem dX2_mark_19 : decode cX2_mark 19 = .ok (.aload_n 0, 1) := by decide +kernel
theorem dX2_mark_20 : decode cX2_mark 20 = .ok (.getfield 11, 3) := by decide +kernel
theorem dX2_mark_23 : decode cX2_mark 23 = .ok (.iload_n 2, 1) := by decide +kernel
theorem dX2_mark_24 : decode cX2_mark 24 = .ok (.aaload, 1) := by decide +kernel
theorem dX2_mark_25 : decode cX2_mark 25 = .ok (.astore_n 3, 1) := by decide +kernel
theorem dX2_mark_26 : decode cX2_mark 26 = .ok (.aload_n 3, 1) := by decide +kernel
theorem dX2_mark_27 : decode cX2_mark 27 = .ok (.ifnull 15, 3) := by decide +kernel
theorem dX2_mark_42 : decode cX2_mark 42 = .ok (.iconst 0, 1) := by decide +kernel
theorem dX2_mark_43 : decode cX2_mark 43 = .ok (.istore 4, 2) := by decide +kernel
theorem dX2_mark_45 : decode cX2_mark 45 = .ok (.aload_n 0, 1) := by decide +kernel
theorem dX2_mark_46 : decode cX2_mark 46 = .ok (.getfield 17, 3) := by decide +kernel
theorem dX2_mark_49 : decode cX2_mark 49 = .ok (.iload_n 2, 1) := by decide +kernel
theorem dX2_mark_50 : decode cX2_mark 50 = .ok (.iload 4, 2) := by decide +kernel
theorem dX2_mark_52 : decode cX2_mark 52 = .ok (.ifCond .eq 23, 3) := by decide +kernel
theorem dX2_mark_75 : decode cX2_mark 75 = .ok (.iconst 0, 1) := by decide +kernel
theorem dX2_mark_76 : decode cX2_mark 76 = .ok (.iastore, 1) := by decide +kernel
theorem dX2_mark_77 : decode cX2_mark 77 = .ok (.iconst 0, 1) := by decide +kernel
theorem dX2_mark_78 : decode cX2_mark 78 = .ok (.istore 5, 2) := by decide +kernel
theorem dX2_mark_80 : decode cX2_mark 80 = .ok (.iload 4, 2) := by decide +kernel
theorem dX2_mark_82 : decode cX2_mark 82 = .ok (.ifCond .eq 76, 3) := by decide +kernel
theorem dX2_mark_158 : decode cX2_mark 158 = .ok (.iinc 2 (-1), 3) := by decide +kernel
theorem dX2_mark_161 : decode cX2_mark 161 = .ok (.goto (-146), 3) := by decide +kernel
theorem dX2_mark_30 : decode cX2_mark 30 = .ok (.aload_n 3, 1) := by decide +kernel
theorem dX2_mark_31 : decode cX2_mark 31 = .ok (.getfield 37, 3) := by decide +kernel
theorem dX2_mark_34 : decode cX2_mark 34 = .ok (.iload_n 1, 1) := by decide +kernel
theorem dX2_mark_35 : decode cX2_mark 35 = .ok (.if_icmp .gt 7, 3) := by decide +kernel
theorem dX2_mark_38 : decode cX2_mark 38 = .ok (.iconst 1, 1) := by decide +kernel
theorem dX2_mark_39 : decode cX2_mark 39 = .ok (.goto 4, 3) := by decide +kernel
theorem dX2_mark_55 : decode cX2_mark 55 = .ok (.iconst 1, 1) := by decide +kernel
theorem dX2_mark_56 : decode cX2_mark 56 = .ok (.aload_n 3, 1) := by decide +kernel
theorem dX2_mark_57 : decode cX2_mark 57 = .ok (.getfield 28, 3) := by decide +kernel
theorem dX2_mark_60 : decode cX2_mark 60 = .ok (.ishl, 1) := by decide +kernel
theorem dX2_mark_61 : decode cX2_mark 61 = .ok (.iconst 1, 1) := by decide +kernel
theorem dX2_mark_62 : decode cX2_mark 62 = .ok (.isub, 1) := by decide +kernel
theorem dX2_mark_63 : decode cX2_mark 63 = .ok (.aload_n 0, 1) := by decide +kernel
theorem dX2_mark_64 : decode cX2_mark 64 = .ok (.getfield 21, 3) := by decide +kernel
theorem dX2_mark_67 : decode cX2_mark 67 = .ok (.iload_n 2, 1) := by decide +kernel
theorem dX2_mark_68 : decode cX2_mark 68 = .ok (.iaload, 1) := by decide +kernel
theorem dX2_mark_69 : decode cX2_mark 69 = .ok (.iconst (-1), 1) := by decide +kernel
theorem dX2_mark_70 : decode cX2_mark 70 = .ok (.ixor, 1) := by decide +kernel
theorem dX2_mark_71 : decode cX2_mark 71 = .ok (.iand, 1) := by decide +kernel
theorem dX2_mark_72 : decode cX2_mark 72 = .ok (.goto 4, 3) := by decide +kernel
theorem dX2_mark_85 : decode cX2_mark 85 = .ok (.iload 5, 2) := by decide +kernel
theorem dX2_mark_87 : decode cX2_mark 87 = .ok (.aload_n 3, 1) := by decide +kernel
theorem dX2_mark_88 : decode cX2_mark 88 = .ok (.getfield 28, 3) := by decide +kernel
theorem dX2_mark_91 : decode cX2_mark 91 = .ok (.if_icmp .ge 67, 3) := by decide +kernel
theorem dX2_mark_94 : decode cX2_mark 94 = .ok (.aload_n 3, 1) := by decide +kernel
theorem dX2_mark_95 : decode cX2_mark 95 = .ok (.getfield 40, 3) := by decide +kernel
theorem dX2_mark_98 : decode cX2_mark 98 = .ok (.iload 5, 2) := by decide +kernel
theorem dX2_mark_100 : decode cX2_mark 100 = .ok (.iaload, 1) := by decide +kernel
theorem dX2_mark_101 : decode cX2_mark 101 = .ok (.sipush 256, 3) := by decide +kernel
theorem dX2_mark_104 : decode cX2_mark 104 = .ok (.if_icmp .ne 48, 3) := by decide +kernel
theorem dX2_mark_107 : decode cX2_mark 107 = .ok (.aload_n 0, 1) := by decide +kernel
theorem dX2_mark_108 : decode cX2_mark 108 = .ok (.iload_n 2, 1) := by decide +kernel
theorem dX2_mark_109 : decode cX2_mark 109 = .ok (.iload 5, 2) := by decide +kernel
theorem dX2_mark_111 : decode cX2_mark 111 = .ok (.invokevirtual 43, 3) := by decide +kernel
theorem dX2_mark_114 : decode cX2_mark 114 = .ok (.ifCond .eq 38, 3) := by decide +kernel
theorem dX2_mark_117 : decode cX2_mark 117 = .ok (.aload_n 3, 1) := by decide +kernel
theorem dX2_mark_118 : decode cX2_mark 118 = .ok (.getfield 47, 3) := by decide +kernel
theorem dX2_mark_121 : decode cX2_mark 121 = .ok (.iload 5, 2) := by decide +kernel
theorem dX2_mark_123 : decode cX2_mark 123 = .ok (.iaload, 1) := by decide +kernel
theorem dX2_mark_124 : decode cX2_mark 124 = .ok (.iload_n 2, 1) := by decide +kernel
theorem dX2_mark_125 : decode cX2_mark 125 = .ok (.if_icmp .ge 27, 3) := by decide +kernel
theorem dX2_mark_128 : decode cX2_mark 128 = .ok (.aload_n 0, 1) := by decide +kernel
theorem dX2_mark_129 : decode cX2_mark 129 = .ok (.getfield 21, 3) := by decide +kernel
theorem dX2_mark_132 : decode cX2_mark 132 = .ok (.aload_n 3, 1) := by decide +kernel
theorem dX2_mark_133 : decode cX2_mark 133 = .ok (.getfield 47, 3) := by decide +kernel
theorem dX2_mark_136 : decode cX2_mark 136 = .ok (.iload 5, 2) := by decide +kernel
theorem dX2_mark_138 : decode cX2_mark 138 = .ok (.iaload, 1) := by decide +kernel
theorem dX2_mark_139 : decode cX2_mark 139 = .ok (.dup2, 1) := by decide +kernel
theorem dX2_mark_140 : decode cX2_mark 140 = .ok (.iaload, 1) := by decide +kernel
theorem dX2_mark_141 : decode cX2_mark 141 = .ok (.iconst 1, 1) := by decide +kernel
theorem dX2_mark_142 : decode cX2_mark 142 = .ok (.aload_n 3, 1) := by decide +kernel
theorem dX2_mark_143 : decode cX2_mark 143 = .ok (.getfield 50, 3) := by decide +kernel
theorem dX2_mark_146 : decode cX2_mark 146 = .ok (.iload 5, 2) := by decide +kernel
theorem dX2_mark_148 : decode cX2_mark 148 = .ok (.iaload, 1) := by decide +kernel
theorem dX2_mark_149 : decode cX2_mark 149 = .ok (.ishl, 1) := by decide +kernel
theorem dX2_mark_150 : decode cX2_mark 150 = .ok (.ior, 1) := by decide +kernel
theorem dX2_mark_151 : decode cX2_mark 151 = .ok (.iastore, 1) := by decide +kernel
theorem dX2_mark_152 : decode cX2_mark 152 = .ok (.iinc 5 1, 3) := by decide +kernel
theorem dX2_mark_155 : decode cX2_mark 155 = .ok (.goto (-75), 3) := by decide +kernel
theorem dX2_mark_164 : decode cX2_mark 164 = .ok (.return_, 1) := by decide +kernel
theorem dX0_lookAtNow_11 : decode cX0_lookAtNow 11 = .ok (.aload_n 0, 1) := by decide +kernel
theorem dX0_lookAtNow_12 : decode cX0_lookAtNow 12 = .ok (.aload_n 0, 1) := by decide +kernel
theorem dX0_lookAtNow_13 : decode cX0_lookAtNow 13 = .ok (.getfield 97, 3) := by decide +kernel
theorem dX0_lookAtNow_16 : decode cX0_lookAtNow 16 = .ok (.ifCond .eq 10, 3) := by decide +kernel
theorem dX0_lookAtNow_26 : decode cX0_lookAtNow 26 = .ok (.aload_n 0, 1) := by decide +kernel
theorem dX0_lookAtNow_27 : decode cX0_lookAtNow 27 = .ok (.getfield 35, 3) := by decide +kernel
theorem dX0_lookAtNow_30 : decode cX0_lookAtNow 30 = .ok (.aload_n 0, 1) := by decide +kernel
theorem dX0_lookAtNow_31 : decode cX0_lookAtNow 31 = .ok (.getfield 93, 3) := by decide +kernel
theorem dX0_lookAtNow_34 : decode cX0_lookAtNow 34 = .ok (.invokevirtual 117, 3) := by decide +kernel
theorem dX7_priceIn_0 : decode cX7_priceIn 0 = .ok (.iload_n 1, 1) := by decide +kernel
theorem dX7_priceIn_1 : decode cX7_priceIn 1 = .ok (.sipush 399, 3) := by decide +kernel
theorem dX7_priceIn_4 : decode cX7_priceIn 4 = .ok (.invokestatic 27, 3) := by decide +kernel
theorem dX7_priceIn_7 : decode cX7_priceIn 7 = .ok (.istore_n 2, 1) := by decide +kernel
theorem dX7_priceIn_8 : decode cX7_priceIn 8 = .ok (.iload_n 2, 1) := by decide +kernel
theorem dX7_priceIn_9 : decode cX7_priceIn 9 = .ok (.ifCond .lt 26, 3) := by decide +kernel
theorem dX7_priceIn_12 : decode cX7_priceIn 12 = .ok (.aload_n 0, 1) := by decide +kernel
theorem dX7_priceIn_13 : decode cX7_priceIn 13 = .ok (.getfield 9, 3) := by decide +kernel
theorem dX7_priceIn_16 : decode cX7_priceIn 16 = .ok (.iload_n 2, 1) := by decide +kernel
theorem dX7_priceIn_17 : decode cX7_priceIn 17 = .ok (.iaload, 1) := by decide +kernel
theorem dX7_priceIn_18 : decode cX7_priceIn 18 = .ok (.iconst (-1), 1) := by decide +kernel
theorem dX7_priceIn_19 : decode cX7_priceIn 19 = .ok (.if_icmp .eq 10, 3) := by decide +kernel
theorem dX7_priceIn_29 : decode cX7_priceIn 29 = .ok (.iinc 2 (-1), 3) := by decide +kernel
theorem dX7_priceIn_32 : decode cX7_priceIn 32 = .ok (.goto (-24), 3) := by decide +kernel
theorem dX7_priceIn_22 : decode cX7_priceIn 22 = .ok (.aload_n 0, 1) := by decide +kernel
theorem dX7_priceIn_23 : decode cX7_priceIn 23 = .ok (.getfield 9, 3) := by decide +kernel
theorem dX7_priceIn_26 : decode cX7_priceIn 26 = .ok (.iload_n 2, 1) := by decide +kernel
theorem dX7_priceIn_27 : decode cX7_priceIn 27 = .ok (.iaload, 1) := by decide +kernel
theorem dX7_priceIn_28 : decode cX7_priceIn 28 = .ok (.ireturn, 1) := by decide +kernel
theorem dX7_priceIn_35 : decode cX7_priceIn 35 = .ok (.bipush 100, 2) := by decide +kernel
theorem dX7_priceIn_37 : decode cX7_priceIn 37 = .ok (.ireturn, 1) := by decide +kernel
theorem dX0_lookAtNow_19 : decode cX0_lookAtNow 19 = .ok (.aload_n 0, 1) := by decide +kernel
theorem dX0_lookAtNow_20 : decode cX0_lookAtNow 20 = .ok (.getfield 107, 3) := by decide +kernel
theorem dX0_lookAtNow_23 : decode cX0_lookAtNow 23 = .ok (.goto 14, 3) := by decide +kernel
theorem dX0_lookAtNow_37 : decode cX0_lookAtNow 37 = .ok (.putfield 121, 3) := by decide +kernel
theorem dX0_lookAtNow_40 : decode cX0_lookAtNow 40 = .ok (.return_, 1) := by decide +kernel
theorem dX0_passWeek_0 : decode cX0_passWeek 0 = .ok (.aload_n 0, 1) := by decide +kernel
theorem dX0_passWeek_1 : decode cX0_passWeek 1 = .ok (.getfield 93, 3) := by decide +kernel
theorem dX0_passWeek_4 : decode cX0_passWeek 4 = .ok (.sipush 399, 3) := by decide +kernel
theorem dX0_passWeek_7 : decode cX0_passWeek 7 = .ok (.if_icmp .lt 4, 3) := by decide +kernel
theorem dX0_passWeek_11 : decode cX0_passWeek 11 = .ok (.aload_n 0, 1) := by decide +kernel
theorem dX0_passWeek_12 : decode cX0_passWeek 12 = .ok (.invokevirtual 133, 3) := by decide +kernel
theorem dX0_passWeek_15 : decode cX0_passWeek 15 = .ok (.aload_n 0, 1) := by decide +kernel
theorem dX0_passWeek_16 : decode cX0_passWeek 16 = .ok (.invokevirtual 136, 3) := by decide +kernel
theorem dX0_reap_0 : decode cX0_reap 0 = .ok (.aload_n 0, 1) := by decide +kernel
theorem dX0_reap_1 : decode cX0_reap 1 = .ok (.getfield 97, 3) := by decide +kernel
theorem dX0_reap_4 : decode cX0_reap 4 = .ok (.ifCond .eq 21, 3) := by decide +kernel
theorem dX0_reap_25 : decode cX0_reap 25 = .ok (.aload_n 0, 1) := by decide +kernel
theorem dX0_reap_26 : decode cX0_reap 26 = .ok (.getfield 35, 3) := by decide +kernel
theorem dX0_reap_29 : decode cX0_reap 29 = .ok (.getfield 167, 3) := by decide +kernel
theorem dX0_reap_32 : decode cX0_reap 32 = .ok (.aload_n 0, 1) := by decide +kernel
theorem dX0_reap_33 : decode cX0_reap 33 = .ok (.getfield 93, 3) := by decide +kernel
theorem dX0_reap_36 : decode cX0_reap 36 = .ok (.aaload, 1) := by decide +kernel
theorem dX0_reap_37 : decode cX0_reap 37 = .ok (.ifnull 7, 3) := by decide +kernel
theorem dX0_reap_44 : decode cX0_reap 44 = .ok (.iconst 0, 1) := by decide +kernel
theorem dX0_reap_40 : decode cX0_reap 40 = .ok (.iconst 1, 1) := by decide +kernel
theorem dX0_reap_41 : decode cX0_reap 41 = .ok (.goto 4, 3) := by decide +kernel
theorem dX0_reap_7 : decode cX0_reap 7 = .ok (.aload_n 0, 1) := by decide +kernel
theorem dX0_reap_8 : decode cX0_reap 8 = .ok (.getfield 93, 3) := by decide +kernel
theorem dX0_reap_11 : decode cX0_reap 11 = .ok (.bipush 13, 2) := by decide +kernel
theorem dX0_reap_13 : decode cX0_reap 13 = .ok (.irem, 1) := by decide +kernel
theorem dX0_reap_14 : decode cX0_reap 14 = .ok (.ifCond .ne 7, 3) := by decide +kernel
theorem dX0_reap_21 : decode cX0_reap 21 = .ok (.iconst 0, 1) := by decide +kernel
theorem dX0_reap_22 : decode cX0_reap 22 = .ok (.goto 23, 3) := by decide +kernel
theorem dX0_reap_17 : decode cX0_reap 17 = .ok (.iconst 1, 1) := by decide +kernel
theorem dX0_reap_18 : decode cX0_reap 18 = .ok (.goto 27, 3) := by decide +kernel
theorem dX0_reap_45 : decode cX0_reap 45 = .ok (.istore_n 1, 1) := by decide +kernel
theorem dX0_reap_46 : decode cX0_reap 46 = .ok (.iconst 0, 1) := by decide +kernel
theorem dX0_reap_47 : decode cX0_reap 47 = .ok (.istore_n 2, 1) := by decide +kernel
theorem dX0_reap_48 : decode cX0_reap 48 = .ok (.iload_n 1, 1) := by decide +kernel
theorem dX0_reap_49 : decode cX0_reap 49 = .ok (.ifCond .eq 96, 3) := by decide +kernel
theorem dX0_reap_52 : decode cX0_reap 52 = .ok (.iload_n 2, 1) := by decide +kernel
theorem dX0_reap_53 : decode cX0_reap 53 = .ok (.aload_n 0, 1) := by decide +kernel
theorem dX0_reap_54 : decode cX0_reap 54 = .ok (.getfield 21, 3) := by decide +kernel
theorem dX0_reap_57 : decode cX0_reap 57 = .ok (.getfield 171, 3) := by decide +kernel
theorem dX0_reap_60 : decode cX0_reap 60 = .ok (.if_icmp .ge 85, 3) := by decide +kernel
theorem dX0_reap_63 : decode cX0_reap 63 = .ok (.aload_n 0, 1) := by decide +kernel
theorem dX0_reap_64 : decode cX0_reap 64 = .ok (.getfield 21, 3) := by decide +kernel
theorem dX0_reap_67 : decode cX0_reap 67 = .ok (.getfield 124, 3) := by decide +kernel
theorem dX0_reap_70 : decode cX0_reap 70 = .ok (.iload_n 2, 1) := by decide +kernel
theorem dX0_reap_71 : decode cX0_reap 71 = .ok (.iaload, 1) := by decide +kernel
theorem dX0_reap_72 : decode cX0_reap 72 = .ok (.istore_n 3, 1) := by decide +kernel
theorem dX0_reap_73 : decode cX0_reap 73 = .ok (.aload_n 0, 1) := by decide +kernel
theorem dX0_reap_74 : decode cX0_reap 74 = .ok (.getfield 97, 3) := by decide +kernel
theorem dX0_reap_77 : decode cX0_reap 77 = .ok (.ifCond .eq 23, 3) := by decide +kernel
theorem dX0_reap_100 : decode cX0_reap 100 = .ok (.aload_n 0, 1) := by decide +kernel
theorem dX0_reap_101 : decode cX0_reap 101 = .ok (.getfield 35, 3) := by decide +kernel
theorem dX0_reap_104 : decode cX0_reap 104 = .ok (.iload_n 2, 1) := by decide +kernel
theorem dX0_reap_105 : decode cX0_reap 105 = .ok (.aload_n 0, 1) := by decide +kernel
theorem dX0_reap_106 : decode cX0_reap 106 = .ok (.getfield 93, 3) := by decide +kernel
theorem dX0_reap_109 : decode cX0_reap 109 = .ok (.invokevirtual 175, 3) := by decide +kernel
theorem dX7_sacksOf_0 : decode cX7_sacksOf 0 = .ok (.aload_n 0, 1) := by decide +kernel
theorem dX7_sacksOf_1 : decode cX7_sacksOf 1 = .ok (.getfield 17, 3) := by decide +kernel
theorem dX7_sacksOf_4 : decode cX7_sacksOf 4 = .ok (.iload_n 2, 1) := by decide +kernel
theorem dX7_sacksOf_5 : decode cX7_sacksOf 5 = .ok (.aaload, 1) := by decide +kernel
theorem dX7_sacksOf_6 : decode cX7_sacksOf 6 = .ok (.astore_n 3, 1) := by decide +kernel
theorem dX7_sacksOf_7 : decode cX7_sacksOf 7 = .ok (.aload_n 3, 1) := by decide +kernel
theorem dX7_sacksOf_8 : decode cX7_sacksOf 8 = .ok (.ifnull 25, 3) := by decide +kernel
theorem dX7_sacksOf_33 : decode cX7_sacksOf 33 = .ok (.iconst (-1), 1) := by decide +kernel
theorem dX7_sacksOf_34 : decode cX7_sacksOf 34 = .ok (.ireturn, 1) := by decide +kernel
theorem dX7_sacksOf_11 : decode cX7_sacksOf 11 = .ok (.iload_n 1, 1) := by decide +kernel
theorem dX7_sacksOf_12 : decode cX7_sacksOf 12 = .ok (.aload_n 3, 1) := by decide +kernel
theorem dX7_sacksOf_13 : decode cX7_sacksOf 13 = .ok (.getfield 33, 3) := by decide +kernel
theorem dX7_sacksOf_16 : decode cX7_sacksOf 16 = .ok (.if_icmp .lt 17, 3) := by decide +kernel
theorem dX7_sacksOf_19 : decode cX7_sacksOf 19 = .ok (.iload_n 1, 1) := by decide +kernel
theorem dX7_sacksOf_20 : decode cX7_sacksOf 20 = .ok (.aload_n 3, 1) := by decide +kernel
theorem dX7_sacksOf_21 : decode cX7_sacksOf 21 = .ok (.getfield 33, 3) := by decide +kernel
theorem dX7_sacksOf_24 : decode cX7_sacksOf 24 = .ok (.isub, 1) := by decide +kernel
theorem dX7_sacksOf_25 : decode cX7_sacksOf 25 = .ok (.aload_n 3, 1) := by decide +kernel
theorem dX7_sacksOf_26 : decode cX7_sacksOf 26 = .ok (.getfield 37, 3) := by decide +kernel
theorem dX7_sacksOf_29 : decode cX7_sacksOf 29 = .ok (.arraylength, 1) := by decide +kernel
theorem dX7_sacksOf_30 : decode cX7_sacksOf 30 = .ok (.if_icmp .lt 5, 3) := by decide +kernel
theorem dX7_sacksOf_35 : decode cX7_sacksOf 35 = .ok (.aload_n 3, 1) := by decide +kernel
theorem dX7_sacksOf_36 : decode cX7_sacksOf 36 = .ok (.getfield 37, 3) := by decide +kernel
theorem dX7_sacksOf_39 : decode cX7_sacksOf 39 = .ok (.iload_n 1, 1) := by decide +kernel
theorem dX7_sacksOf_40 : decode cX7_sacksOf 40 = .ok (.aload_n 3, 1) := by decide +kernel
theorem dX7_sacksOf_41 : decode cX7_sacksOf 41 = .ok (.getfield 33, 3) := by decide +kernel
theorem dX7_sacksOf_44 : decode cX7_sacksOf 44 = .ok (.isub, 1) := by decide +kernel
theorem dX7_sacksOf_45 : decode cX7_sacksOf 45 = .ok (.iaload, 1) := by decide +kernel
theorem dX7_sacksOf_46 : decode cX7_sacksOf 46 = .ok (.ireturn, 1) := by decide +kernel
theorem dX0_reap_80 : decode cX0_reap 80 = .ok (.aload_n 0, 1) := by decide +kernel
theorem dX0_reap_81 : decode cX0_reap 81 = .ok (.getfield 110, 3) := by decide +kernel
theorem dX0_reap_84 : decode cX0_reap 84 = .ok (.aload_n 0, 1) := by decide +kernel
theorem dX0_reap_85 : decode cX0_reap 85 = .ok (.getfield 21, 3) := by decide +kernel
theorem dX0_reap_88 : decode cX0_reap 88 = .ok (.getfield 172, 3) := by decide +kernel
theorem dX0_reap_91 : decode cX0_reap 91 = .ok (.iload_n 2, 1) := by decide +kernel
theorem dX0_reap_92 : decode cX0_reap 92 = .ok (.iaload, 1) := by decide +kernel
theorem dX0_reap_93 : decode cX0_reap 93 = .ok (.imul, 1) := by decide +kernel
theorem dX0_reap_94 : decode cX0_reap 94 = .ok (.bipush 100, 2) := by decide +kernel
theorem dX0_reap_96 : decode cX0_reap 96 = .ok (.idiv, 1) := by decide +kernel
theorem dX0_reap_97 : decode cX0_reap 97 = .ok (.goto 15, 3) := by decide +kernel
theorem dX0_reap_112 : decode cX0_reap 112 = .ok (.istore 4, 2) := by decide +kernel
theorem dX0_reap_114 : decode cX0_reap 114 = .ok (.iload_n 3, 1) := by decide +kernel
theorem dX0_reap_115 : decode cX0_reap 115 = .ok (.iconst (-1), 1) := by decide +kernel
theorem dX0_reap_116 : decode cX0_reap 116 = .ok (.if_icmp .eq 23, 3) := by decide +kernel
theorem dX0_reap_119 : decode cX0_reap 119 = .ok (.iload 4, 2) := by decide +kernel
theorem dX0_reap_121 : decode cX0_reap 121 = .ok (.iconst (-1), 1) := by decide +kernel
theorem dX0_reap_122 : decode cX0_reap 122 = .ok (.if_icmp .eq 17, 3) := by decide +kernel
theorem dX0_reap_125 : decode cX0_reap 125 = .ok (.aload_n 0, 1) := by decide +kernel
theorem dX0_reap_126 : decode cX0_reap 126 = .ok (.getfield 12, 3) := by decide +kernel
theorem dX0_reap_129 : decode cX0_reap 129 = .ok (.getfield 179, 3) := by decide +kernel
theorem dX0_reap_132 : decode cX0_reap 132 = .ok (.iload_n 3, 1) := by decide +kernel
theorem dX0_reap_133 : decode cX0_reap 133 = .ok (.dup2, 1) := by decide +kernel
theorem dX0_reap_134 : decode cX0_reap 134 = .ok (.iaload, 1) := by decide +kernel
theorem dX0_reap_135 : decode cX0_reap 135 = .ok (.iload 4, 2) := by decide +kernel
theorem dX0_reap_137 : decode cX0_reap 137 = .ok (.iadd, 1) := by decide +kernel
theorem dX0_reap_138 : decode cX0_reap 138 = .ok (.iastore, 1) := by decide +kernel
theorem dX0_reap_139 : decode cX0_reap 139 = .ok (.iinc 2 1, 3) := by decide +kernel
theorem dX0_reap_142 : decode cX0_reap 142 = .ok (.goto (-94), 3) := by decide +kernel
theorem dX0_reap_145 : decode cX0_reap 145 = .ok (.return_, 1) := by decide +kernel
theorem dX0_passWeek_19 : decode cX0_passWeek 19 = .ok (.aload_n 0, 1) := by decide +kernel
theorem dX0_passWeek_20 : decode cX0_passWeek 20 = .ok (.getfield 93, 3) := by decide +kernel
theorem dX0_passWeek_23 : decode cX0_passWeek 23 = .ok (.ifCond .eq 32, 3) := by decide +kernel
theorem dX0_passWeek_26 : decode cX0_passWeek 26 = .ok (.aload_n 0, 1) := by decide +kernel
theorem dX0_passWeek_27 : decode cX0_passWeek 27 = .ok (.getfield 93, 3) := by decide +kernel
theorem dX0_passWeek_30 : decode cX0_passWeek 30 = .ok (.bipush 13, 2) := by decide +kernel
theorem dX0_passWeek_32 : decode cX0_passWeek 32 = .ok (.irem, 1) := by decide +kernel
theorem dX0_passWeek_33 : decode cX0_passWeek 33 = .ok (.ifCond .ne 22, 3) := by decide +kernel
theorem dX0_passWeek_36 : decode cX0_passWeek 36 = .ok (.aload_n 0, 1) := by decide +kernel
theorem dX0_passWeek_37 : decode cX0_passWeek 37 = .ok (.invokevirtual 139, 3) := by decide +kernel
theorem dX0_passWeek_40 : decode cX0_passWeek 40 = .ok (.aload_n 0, 1) := by decide +kernel
theorem dX0_passWeek_41 : decode cX0_passWeek 41 = .ok (.invokevirtual 142, 3) := by decide +kernel
theorem dX0_payMortgages_0 : decode cX0_payMortgages 0 = .ok (.iconst 0, 1) := by decide +kernel
theorem dX0_payMortgages_1 : decode cX0_payMortgages 1 = .ok (.istore_n 1, 1) := by decide +kernel
theorem dX0_payMortgages_2 : decode cX0_payMortgages 2 = .ok (.iload_n 1, 1) := by decide +kernel
theorem dX0_payMortgages_3 : decode cX0_payMortgages 3 = .ok (.aload_n 0, 1) := by decide +kernel
theorem dX0_payMortgages_4 : decode cX0_payMortgages 4 = .ok (.getfield 21, 3) := by decide +kernel
theorem dX0_payMortgages_7 : decode cX0_payMortgages 7 = .ok (.getfield 216, 3) := by decide +kernel
theorem dX0_payMortgages_10 : decode cX0_payMortgages 10 = .ok (.if_icmp .ge 96, 3) := by decide +kernel
theorem dX0_payMortgages_13 : decode cX0_payMortgages 13 = .ok (.aload_n 0, 1) := by decide +kernel
theorem dX0_payMortgages_14 : decode cX0_payMortgages 14 = .ok (.getfield 21, 3) := by decide +kernel
theorem dX0_payMortgages_17 : decode cX0_payMortgages 17 = .ok (.getfield 219, 3) := by decide +kernel
theorem dX0_payMortgages_20 : decode cX0_payMortgages 20 = .ok (.iload_n 1, 1) := by decide +kernel
theorem dX0_payMortgages_21 : decode cX0_payMortgages 21 = .ok (.iaload, 1) := by decide +kernel
theorem dX0_payMortgages_22 : decode cX0_payMortgages 22 = .ok (.iconst (-1), 1) := by decide +kernel
theorem dX0_payMortgages_23 : decode cX0_payMortgages 23 = .ok (.if_icmp .eq 6, 3) := by decide +kernel
theorem dX0_payMortgages_29 : decode cX0_payMortgages 29 = .ok (.aload_n 0, 1) := by decide +kernel
theorem dX0_payMortgages_30 : decode cX0_payMortgages 30 = .ok (.getfield 21, 3) := by decide +kernel
theorem dX0_payMortgages_33 : decode cX0_payMortgages 33 = .ok (.getfield 201, 3) := by decide +kernel
theorem dX0_payMortgages_36 : decode cX0_payMortgages 36 = .ok (.iload_n 1, 1) := by decide +kernel
theorem dX0_payMortgages_37 : decode cX0_payMortgages 37 = .ok (.iaload, 1) := by decide +kernel
theorem dX0_payMortgages_38 : decode cX0_payMortgages 38 = .ok (.aload_n 0, 1) := by decide +kernel
theorem dX0_payMortgages_39 : decode cX0_payMortgages 39 = .ok (.getfield 21, 3) := by decide +kernel
theorem dX0_payMortgages_42 : decode cX0_payMortgages 42 = .ok (.getfield 222, 3) := by decide +kernel
theorem dX0_payMortgages_45 : decode cX0_payMortgages 45 = .ok (.iload_n 1, 1) := by decide +kernel
theorem dX0_payMortgages_46 : decode cX0_payMortgages 46 = .ok (.iaload, 1) := by decide +kernel
theorem dX0_payMortgages_47 : decode cX0_payMortgages 47 = .ok (.if_icmp .ge 32, 3) := by decide +kernel
theorem dX0_payMortgages_79 : decode cX0_payMortgages 79 = .ok (.aload_n 0, 1) := by decide +kernel
theorem dX0_payMortgages_80 : decode cX0_payMortgages 80 = .ok (.getfield 21, 3) := by decide +kernel
theorem dX0_payMortgages_83 : decode cX0_payMortgages 83 = .ok (.getfield 201, 3) := by decide +kernel
theorem dX0_payMortgages_86 : decode cX0_payMortgages 86 = .ok (.iload_n 1, 1) := by decide +kernel
theorem dX0_payMortgages_87 : decode cX0_payMortgages 87 = .ok (.dup2, 1) := by decide +kernel
theorem dX0_payMortgages_88 : decode cX0_payMortgages 88 = .ok (.iaload, 1) := by decide +kernel
theorem dX0_payMortgages_89 : decode cX0_payMortgages 89 = .ok (.aload_n 0, 1) := by decide +kernel
theorem dX0_payMortgages_90 : decode cX0_payMortgages 90 = .ok (.getfield 21, 3) := by decide +kernel
theorem dX0_payMortgages_93 : decode cX0_payMortgages 93 = .ok (.getfield 222, 3) := by decide +kernel
theorem dX0_payMortgages_96 : decode cX0_payMortgages 96 = .ok (.iload_n 1, 1) := by decide +kernel
theorem dX0_payMortgages_97 : decode cX0_payMortgages 97 = .ok (.iaload, 1) := by decide +kernel
theorem dX0_payMortgages_98 : decode cX0_payMortgages 98 = .ok (.isub, 1) := by decide +kernel
theorem dX0_payMortgages_99 : decode cX0_payMortgages 99 = .ok (.iastore, 1) := by decide +kernel
theorem dX0_payMortgages_50 : decode cX0_payMortgages 50 = .ok (.aload_n 0, 1) := by decide +kernel
theorem dX0_payMortgages_51 : decode cX0_payMortgages 51 = .ok (.getfield 21, 3) := by decide +kernel
theorem dX0_payMortgages_54 : decode cX0_payMortgages 54 = .ok (.getfield 219, 3) := by decide +kernel
theorem dX0_payMortgages_57 : decode cX0_payMortgages 57 = .ok (.iload_n 1, 1) := by decide +kernel
theorem dX0_payMortgages_58 : decode cX0_payMortgages 58 = .ok (.aload_n 0, 1) := by decide +kernel
theorem dX0_payMortgages_59 : decode cX0_payMortgages 59 = .ok (.getfield 93, 3) := by decide +kernel
theorem dX0_payMortgages_62 : decode cX0_payMortgages 62 = .ok (.bipush 13, 2) := by decide +kernel
theorem dX0_payMortgages_64 : decode cX0_payMortgages 64 = .ok (.idiv, 1) := by decide +kernel
theorem dX0_payMortgages_65 : decode cX0_payMortgages 65 = .ok (.iastore, 1) := by decide +kernel
theorem dX0_payMortgages_66 : decode cX0_payMortgages 66 = .ok (.aload_n 0, 1) := by decide +kernel
theorem dX0_payMortgages_67 : decode cX0_payMortgages 67 = .ok (.getfield 21, 3) := by decide +kernel
theorem dX0_payMortgages_70 : decode cX0_payMortgages 70 = .ok (.getfield 201, 3) := by decide +kernel
theorem dX0_payMortgages_73 : decode cX0_payMortgages 73 = .ok (.iload_n 1, 1) := by decide +kernel
theorem dX0_payMortgages_74 : decode cX0_payMortgages 74 = .ok (.iconst 0, 1) := by decide +kernel
theorem dX0_payMortgages_75 : decode cX0_payMortgages 75 = .ok (.iastore, 1) := by decide +kernel
theorem dX0_payMortgages_76 : decode cX0_payMortgages 76 = .ok (.goto 24, 3) := by decide +kernel
theorem dX0_payMortgages_26 : decode cX0_payMortgages 26 = .ok (.goto 74, 3) := by decide +kernel
theorem dX0_payMortgages_100 : decode cX0_payMortgages 100 = .ok (.iinc 1 1, 3) := by decide +kernel
theorem dX0_payMortgages_103 : decode cX0_payMortgages 103 = .ok (.goto (-101), 3) := by decide +kernel
theorem dX0_payMortgages_106 : decode cX0_payMortgages 106 = .ok (.return_, 1) := by decide +kernel
theorem dX0_passWeek_44 : decode cX0_passWeek 44 = .ok (.aload_n 0, 1) := by decide +kernel
theorem dX0_passWeek_45 : decode cX0_passWeek 45 = .ok (.getfield 97, 3) := by decide +kernel
theorem dX0_passWeek_48 : decode cX0_passWeek 48 = .ok (.ifCond .eq 7, 3) := by decide +kernel
theorem dX0_passWeek_51 : decode cX0_passWeek 51 = .ok (.aload_n 0, 1) := by decide +kernel
theorem dX0_passWeek_52 : decode cX0_passWeek 52 = .ok (.invokevirtual 145, 3) := by decide +kernel
theorem dX0_tellWrits_0 : decode cX0_tellWrits 0 = .ok (.iconst 0, 1) := by decide +kernel
theorem dX0_tellWrits_1 : decode cX0_tellWrits 1 = .ok (.istore_n 1, 1) := by decide +kernel
theorem dX0_tellWrits_2 : decode cX0_tellWrits 2 = .ok (.iload_n 1, 1) := by decide +kernel
theorem dX0_tellWrits_3 : decode cX0_tellWrits 3 = .ok (.aload_n 0, 1) := by decide +kernel
theorem dX0_tellWrits_4 : decode cX0_tellWrits 4 = .ok (.getfield 21, 3) := by decide +kernel
theorem dX0_tellWrits_7 : decode cX0_tellWrits 7 = .ok (.getfield 171, 3) := by decide +kernel
theorem dX0_tellWrits_10 : decode cX0_tellWrits 10 = .ok (.if_icmp .ge 75, 3) := by decide +kernel
theorem dX0_tellWrits_13 : decode cX0_tellWrits 13 = .ok (.aload_n 0, 1) := by decide +kernel
theorem dX0_tellWrits_14 : decode cX0_tellWrits 14 = .ok (.getfield 21, 3) := by decide +kernel
theorem dX0_tellWrits_17 : decode cX0_tellWrits 17 = .ok (.getfield 124, 3) := by decide +kernel
theorem dX0_tellWrits_20 : decode cX0_tellWrits 20 = .ok (.iload_n 1, 1) := by decide +kernel
theorem dX0_tellWrits_21 : decode cX0_tellWrits 21 = .ok (.iaload, 1) := by decide +kernel
theorem dX0_tellWrits_22 : decode cX0_tellWrits 22 = .ok (.iconst (-1), 1) := by decide +kernel
theorem dX0_tellWrits_23 : decode cX0_tellWrits 23 = .ok (.if_icmp .eq 56, 3) := by decide +kernel
theorem dX0_tellWrits_26 : decode cX0_tellWrits 26 = .ok (.aload_n 0, 1) := by decide +kernel
theorem dX0_tellWrits_27 : decode cX0_tellWrits 27 = .ok (.getfield 21, 3) := by decide +kernel
theorem dX0_tellWrits_30 : decode cX0_tellWrits 30 = .ok (.getfield 188, 3) := by decide +kernel
theorem dX0_tellWrits_33 : decode cX0_tellWrits 33 = .ok (.iload_n 1, 1) := by decide +kernel
theorem dX0_tellWrits_34 : decode cX0_tellWrits 34 = .ok (.iaload, 1) := by decide +kernel
theorem dX0_tellWrits_35 : decode cX0_tellWrits 35 = .ok (.ifCond .le 44, 3) := by decide +kernel
theorem dX0_tellWrits_38 : decode cX0_tellWrits 38 = .ok (.aload_n 0, 1) := by decide +kernel
theorem dX0_tellWrits_39 : decode cX0_tellWrits 39 = .ok (.getfield 28, 3) := by decide +kernel
theorem dX0_tellWrits_42 : decode cX0_tellWrits 42 = .ok (.iload_n 1, 1) := by decide +kernel
theorem dX0_tellWrits_43 : decode cX0_tellWrits 43 = .ok (.invokevirtual 225, 3) := by decide +kernel
theorem dX10_openOn_0 : decode cX10_openOn 0 = .ok (.iconst 0, 1) := by decide +kernel
theorem dX10_openOn_1 : decode cX10_openOn 1 = .ok (.istore_n 2, 1) := by decide +kernel
theorem dX10_openOn_2 : decode cX10_openOn 2 = .ok (.iload_n 2, 1) := by decide +kernel
theorem dX10_openOn_3 : decode cX10_openOn 3 = .ok (.aload_n 0, 1) := by decide +kernel
theorem dX10_openOn_4 : decode cX10_openOn 4 = .ok (.getfield 39, 3) := by decide +kernel
theorem dX10_openOn_7 : decode cX10_openOn 7 = .ok (.if_icmp .ge 31, 3) := by decide +kernel
theorem dX10_openOn_10 : decode cX10_openOn 10 = .ok (.aload_n 0, 1) := by decide +kernel
theorem dX10_openOn_11 : decode cX10_openOn 11 = .ok (.getfield 27, 3) := by decide +kernel
theorem dX10_openOn_14 : decode cX10_openOn 14 = .ok (.iload_n 2, 1) := by decide +kernel
theorem dX10_openOn_15 : decode cX10_openOn 15 = .ok (.iaload, 1) := by decide +kernel
theorem dX10_openOn_16 : decode cX10_openOn 16 = .ok (.iconst 1, 1) := by decide +kernel
theorem dX10_openOn_17 : decode cX10_openOn 17 = .ok (.if_icmp .ne 15, 3) := by decide +kernel
theorem dX10_openOn_32 : decode cX10_openOn 32 = .ok (.iinc 2 1, 3) := by decide +kernel
theorem dX10_openOn_35 : decode cX10_openOn 35 = .ok (.goto (-33), 3) := by decide +kernel
theorem dX10_openOn_20 : decode cX10_openOn 20 = .ok (.aload_n 0, 1) := by decide +kernel
theorem dX10_openOn_21 : decode cX10_openOn 21 = .ok (.getfield 9, 3) := by decide +kernel
theorem dX10_openOn_24 : decode cX10_openOn 24 = .ok (.iload_n 2, 1) := by decide +kernel
theorem dX10_openOn_25 : decode cX10_openOn 25 = .ok (.iaload, 1) := by decide +kernel
theorem dX10_openOn_26 : decode cX10_openOn 26 = .ok (.iload_n 1, 1) := by decide +kernel
theorem dX10_openOn_27 : decode cX10_openOn 27 = .ok (.if_icmp .ne 5, 3) := by decide +kernel
theorem dX10_openOn_30 : decode cX10_openOn 30 = .ok (.iload_n 2, 1) := by decide +kernel
theorem dX10_openOn_31 : decode cX10_openOn 31 = .ok (.ireturn, 1) := by decide +kernel
theorem dX10_openOn_38 : decode cX10_openOn 38 = .ok (.iconst (-1), 1) := by decide +kernel
theorem dX10_openOn_39 : decode cX10_openOn 39 = .ok (.ireturn, 1) := by decide +kernel
theorem dX0_tellWrits_46 : decode cX0_tellWrits 46 = .ok (.iconst (-1), 1) := by decide +kernel
theorem dX0_tellWrits_47 : decode cX0_tellWrits 47 = .ok (.if_icmp .ne 32, 3) := by decide +kernel
theorem dX0_tellWrits_50 : decode cX0_tellWrits 50 = .ok (.aload_n 0, 1) := by decide +kernel
theorem dX0_tellWrits_51 : decode cX0_tellWrits 51 = .ok (.getfield 28, 3) := by decide +kernel
theorem dX0_tellWrits_54 : decode cX0_tellWrits 54 = .ok (.iload_n 1, 1) := by decide +kernel
theorem dX0_tellWrits_55 : decode cX0_tellWrits 55 = .ok (.aload_n 0, 1) := by decide +kernel
theorem dX0_tellWrits_56 : decode cX0_tellWrits 56 = .ok (.getfield 21, 3) := by decide +kernel
theorem dX0_tellWrits_59 : decode cX0_tellWrits 59 = .ok (.getfield 124, 3) := by decide +kernel
theorem dX0_tellWrits_62 : decode cX0_tellWrits 62 = .ok (.iload_n 1, 1) := by decide +kernel
theorem dX0_tellWrits_63 : decode cX0_tellWrits 63 = .ok (.iaload, 1) := by decide +kernel
theorem dX0_tellWrits_64 : decode cX0_tellWrits 64 = .ok (.aload_n 0, 1) := by decide +kernel
theorem dX0_tellWrits_65 : decode cX0_tellWrits 65 = .ok (.getfield 42, 3) := by decide +kernel
theorem dX0_tellWrits_68 : decode cX0_tellWrits 68 = .ok (.iconst 0, 1) := by decide +kernel
theorem dX0_tellWrits_69 : decode cX0_tellWrits 69 = .ok (.invokevirtual 228, 3) := by decide +kernel
theorem dX0_tellWrits_72 : decode cX0_tellWrits 72 = .ok (.aload_n 0, 1) := by decide +kernel
theorem dX0_tellWrits_73 : decode cX0_tellWrits 73 = .ok (.getfield 93, 3) := by decide +kernel
theorem dX0_tellWrits_76 : decode cX0_tellWrits 76 = .ok (.invokevirtual 231, 3) := by decide +kernel
theorem dX10_add_0 : decode cX10_add 0 = .ok (.aload_n 0, 1) := by decide +kernel
theorem dX10_add_1 : decode cX10_add 1 = .ok (.getfield 39, 3) := by decide +kernel
theorem dX10_add_4 : decode cX10_add 4 = .ok (.bipush 60, 2) := by decide +kernel
theorem dX10_add_6 : decode cX10_add 6 = .ok (.if_icmp .lt 4, 3) := by decide +kernel
theorem dX10_add_10 : decode cX10_add 10 = .ok (.aload_n 0, 1) := by decide +kernel
theorem dX10_add_11 : decode cX10_add 11 = .ok (.getfield 9, 3) := by decide +kernel
theorem dX10_add_14 : decode cX10_add 14 = .ok (.aload_n 0, 1) := by decide +kernel
theorem dX10_add_15 : decode cX10_add 15 = .ok (.getfield 39, 3) := by decide +kernel
theorem dX10_add_18 : decode cX10_add 18 = .ok (.iload_n 1, 1) := by decide +kernel
theorem dX10_add_19 : decode cX10_add 19 = .ok (.iastore, 1) := by decide +kernel
theorem dX10_add_20 : decode cX10_add 20 = .ok (.aload_n 0, 1) := by decide +kernel
theorem dX10_add_21 : decode cX10_add 21 = .ok (.getfield 15, 3) := by decide +kernel
theorem dX10_add_24 : decode cX10_add 24 = .ok (.aload_n 0, 1) := by decide +kernel
theorem dX10_add_25 : decode cX10_add 25 = .ok (.getfield 39, 3) := by decide +kernel
theorem dX10_add_28 : decode cX10_add 28 = .ok (.iload_n 2, 1) := by decide +kernel
theorem dX10_add_29 : decode cX10_add 29 = .ok (.iastore, 1) := by decide +kernel
theorem dX10_add_30 : decode cX10_add 30 = .ok (.aload_n 0, 1) := by decide +kernel
theorem dX10_add_31 : decode cX10_add 31 = .ok (.getfield 18, 3) := by decide +kernel
theorem dX10_add_34 : decode cX10_add 34 = .ok (.aload_n 0, 1) := by decide +kernel
theorem dX10_add_35 : decode cX10_add 35 = .ok (.getfield 39, 3) := by decide +kernel
theorem dX10_add_38 : decode cX10_add 38 = .ok (.iconst 0, 1) := by decide +kernel
theorem dX10_add_39 : decode cX10_add 39 = .ok (.iastore, 1) := by decide +kernel
theorem dX10_add_40 : decode cX10_add 40 = .ok (.aload_n 0, 1) := by decide +kernel
theorem dX10_add_41 : decode cX10_add 41 = .ok (.getfield 21, 3) := by decide +kernel
theorem dX10_add_44 : decode cX10_add 44 = .ok (.aload_n 0, 1) := by decide +kernel
theorem dX10_add_45 : decode cX10_add 45 = .ok (.getfield 39, 3) := by decide +kernel
theorem dX10_add_48 : decode cX10_add 48 = .ok (.iload_n 3, 1) := by decide +kernel
theorem dX10_add_49 : decode cX10_add 49 = .ok (.iastore, 1) := by decide +kernel
theorem dX10_add_50 : decode cX10_add 50 = .ok (.aload_n 0, 1) := by decide +kernel
theorem dX10_add_51 : decode cX10_add 51 = .ok (.getfield 24, 3) := by decide +kernel
theorem dX10_add_54 : decode cX10_add 54 = .ok (.aload_n 0, 1) := by decide +kernel
theorem dX10_add_55 : decode cX10_add 55 = .ok (.getfield 39, 3) := by decide +kernel
theorem dX10_add_58 : decode cX10_add 58 = .ok (.iload 4, 2) := by decide +kernel
theorem dX10_add_60 : decode cX10_add 60 = .ok (.iastore, 1) := by decide +kernel
theorem dX10_add_61 : decode cX10_add 61 = .ok (.aload_n 0, 1) := by decide +kernel
theorem dX10_add_62 : decode cX10_add 62 = .ok (.getfield 27, 3) := by decide +kernel
theorem dX10_add_65 : decode cX10_add 65 = .ok (.aload_n 0, 1) := by decide +kernel
theorem dX10_add_66 : decode cX10_add 66 = .ok (.getfield 39, 3) := by decide +kernel
theorem dX10_add_69 : decode cX10_add 69 = .ok (.iconst 1, 1) := by decide +kernel
theorem dX10_add_70 : decode cX10_add 70 = .ok (.iastore, 1) := by decide +kernel
theorem dX10_add_71 : decode cX10_add 71 = .ok (.aload_n 0, 1) := by decide +kernel
theorem dX10_add_72 : decode cX10_add 72 = .ok (.dup, 1) := by decide +kernel
theorem dX10_add_73 : decode cX10_add 73 = .ok (.getfield 39, 3) := by decide +kernel
theorem dX10_add_76 : decode cX10_add 76 = .ok (.iconst 1, 1) := by decide +kernel
theorem dX10_add_77 : decode cX10_add 77 = .ok (.iadd, 1) := by decide +kernel
theorem dX10_add_78 : decode cX10_add 78 = .ok (.putfield 39, 3) := by decide +kernel
theorem dX10_add_81 : decode cX10_add 81 = .ok (.return_, 1) := by decide +kernel
theorem dX10_add_9 : decode cX10_add 9 = .ok (.return_, 1) := by decide +kernel
theorem dX0_tellWrits_79 : decode cX0_tellWrits 79 = .ok (.iinc 1 1, 3) := by decide +kernel
theorem dX0_tellWrits_82 : decode cX0_tellWrits 82 = .ok (.goto (-80), 3) := by decide +kernel
theorem dX0_tellWrits_85 : decode cX0_tellWrits 85 = .ok (.return_, 1) := by decide +kernel
theorem dX0_passWeek_55 : decode cX0_passWeek 55 = .ok (.iconst 0, 1) := by decide +kernel
theorem dX0_passWeek_56 : decode cX0_passWeek 56 = .ok (.istore_n 1, 1) := by decide +kernel
theorem dX0_passWeek_57 : decode cX0_passWeek 57 = .ok (.iload_n 1, 1) := by decide +kernel
theorem dX0_passWeek_58 : decode cX0_passWeek 58 = .ok (.aload_n 0, 1) := by decide +kernel
theorem dX0_passWeek_59 : decode cX0_passWeek 59 = .ok (.getfield 28, 3) := by decide +kernel
theorem dX0_passWeek_62 : decode cX0_passWeek 62 = .ok (.getfield 148, 3) := by decide +kernel
theorem dX0_passWeek_65 : decode cX0_passWeek 65 = .ok (.if_icmp .ge 27, 3) := by decide +kernel
theorem dX0_passWeek_68 : decode cX0_passWeek 68 = .ok (.aload_n 0, 1) := by decide +kernel
theorem dX0_passWeek_69 : decode cX0_passWeek 69 = .ok (.getfield 28, 3) := by decide +kernel
theorem dX0_passWeek_72 : decode cX0_passWeek 72 = .ok (.getfield 151, 3) := by decide +kernel
theorem dX0_passWeek_75 : decode cX0_passWeek 75 = .ok (.iload_n 1, 1) := by decide +kernel
theorem dX0_passWeek_76 : decode cX0_passWeek 76 = .ok (.iaload, 1) := by decide +kernel
theorem dX0_passWeek_77 : decode cX0_passWeek 77 = .ok (.iconst 1, 1) := by decide +kernel
theorem dX0_passWeek_78 : decode cX0_passWeek 78 = .ok (.if_icmp .ne 8, 3) := by decide +kernel
theorem dX0_passWeek_81 : decode cX0_passWeek 81 = .ok (.aload_n 0, 1) := by decide +kernel
theorem dX0_passWeek_82 : decode cX0_passWeek 82 = .ok (.iload_n 1, 1) := by decide +kernel
theorem dX0_passWeek_83 : decode cX0_passWeek 83 = .ok (.invokevirtual 154, 3) := by decide +kernel
theorem dX0_passWeek_86 : decode cX0_passWeek 86 = .ok (.iinc 1 1, 3) := by decide +kernel
theorem dX0_passWeek_89 : decode cX0_passWeek 89 = .ok (.goto (-32), 3) := by decide +kernel
theorem dX0_passWeek_92 : decode cX0_passWeek 92 = .ok (.aload_n 0, 1) := by decide +kernel
theorem dX0_passWeek_93 : decode cX0_passWeek 93 = .ok (.invokevirtual 157, 3) := by decide +kernel
theorem dX0_payDraws_0 : decode cX0_payDraws 0 = .ok (.iconst 0, 1) := by decide +kernel
theorem dX0_payDraws_1 : decode cX0_payDraws 1 = .ok (.istore_n 1, 1) := by decide +kernel
theorem dX0_payDraws_2 : decode cX0_payDraws 2 = .ok (.iload_n 1, 1) := by decide +kernel
theorem dX0_payDraws_3 : decode cX0_payDraws 3 = .ok (.aload_n 0, 1) := by decide +kernel
theorem dX0_payDraws_4 : decode cX0_payDraws 4 = .ok (.getfield 12, 3) := by decide +kernel
theorem dX0_payDraws_7 : decode cX0_payDraws 7 = .ok (.getfield 263, 3) := by decide +kernel
theorem dX0_payDraws_10 : decode cX0_payDraws 10 = .ok (.if_icmp .ge 87, 3) := by decide +kernel
theorem dX0_payDraws_13 : decode cX0_payDraws 13 = .ok (.aload_n 0, 1) := by decide +kernel
theorem dX0_payDraws_14 : decode cX0_payDraws 14 = .ok (.getfield 12, 3) := by decide +kernel
theorem dX0_payDraws_17 : decode cX0_payDraws 17 = .ok (.getfield 182, 3) := by decide +kernel
theorem dX0_payDraws_20 : decode cX0_payDraws 20 = .ok (.iload_n 1, 1) := by decide +kernel
theorem dX0_payDraws_21 : decode cX0_payDraws 21 = .ok (.iaload, 1) := by decide +kernel
theorem dX0_payDraws_22 : decode cX0_payDraws 22 = .ok (.iconst 1, 1) := by decide +kernel
theorem dX0_payDraws_23 : decode cX0_payDraws 23 = .ok (.if_icmp .ne 68, 3) := by decide +kernel
theorem dX0_payDraws_26 : decode cX0_payDraws 26 = .ok (.aload_n 0, 1) := by decide +kernel
theorem dX0_payDraws_27 : decode cX0_payDraws 27 = .ok (.getfield 12, 3) := by decide +kernel
theorem dX0_payDraws_30 : decode cX0_payDraws 30 = .ok (.getfield 130, 3) := by decide +kernel
theorem dX0_payDraws_33 : decode cX0_payDraws 33 = .ok (.iload_n 1, 1) := by decide +kernel
theorem dX0_payDraws_34 : decode cX0_payDraws 34 = .ok (.iaload, 1) := by decide +kernel
theorem dX0_payDraws_35 : decode cX0_payDraws 35 = .ok (.iconst (-1), 1) := by decide +kernel
theorem dX0_payDraws_36 : decode cX0_payDraws 36 = .ok (.if_icmp .ne 6, 3) := by decide +kernel
theorem dX0_payDraws_42 : decode cX0_payDraws 42 = .ok (.aload_n 0, 1) := by decide +kernel
theorem dX0_payDraws_43 : decode cX0_payDraws 43 = .ok (.iload_n 1, 1) := by decide +kernel
theorem dX0_payDraws_44 : decode cX0_payDraws 44 = .ok (.invokevirtual 264, 3) := by decide +kernel
theorem dX0_payDraws_47 : decode cX0_payDraws 47 = .ok (.lstore_n 2, 1) := by decide +kernel
theorem dX0_payDraws_48 : decode cX0_payDraws 48 = .ok (.lload_n 2, 1) := by decide +kernel
theorem dX0_payDraws_49 : decode cX0_payDraws 49 = .ok (.lconst 0, 1) := by decide +kernel
theorem dX0_payDraws_50 : decode cX0_payDraws 50 = .ok (.lcmp, 1) := by decide +kernel
theorem dX0_payDraws_51 : decode cX0_payDraws 51 = .ok (.ifCond .le 40, 3) := by decide +kernel
theorem dX0_payDraws_54 : decode cX0_payDraws 54 = .ok (.lload_n 2, 1) := by decide +kernel
theorem dX0_payDraws_55 : decode cX0_payDraws 55 = .ok (.aload_n 0, 1) := by decide +kernel
theorem dX0_payDraws_56 : decode cX0_payDraws 56 = .ok (.getfield 49, 3) := by decide +kernel
theorem dX0_payDraws_59 : decode cX0_payDraws 59 = .ok (.getfield 268, 3) := by decide +kernel
theorem dX0_payDraws_62 : decode cX0_payDraws 62 = .ok (.i2l, 1) := by decide +kernel
theorem dX0_payDraws_63 : decode cX0_payDraws 63 = .ok (.lcmp, 1) := by decide +kernel
theorem dX0_payDraws_64 : decode cX0_payDraws 64 = .ok (.ifCond .gt 27, 3) := by decide +kernel
theorem dX0_payDraws_67 : decode cX0_payDraws 67 = .ok (.aload_n 0, 1) := by decide +kernel
theorem dX0_payDraws_68 : decode cX0_payDraws 68 = .ok (.getfield 49, 3) := by decide +kernel
theorem dX0_payDraws_71 : decode cX0_payDraws 71 = .ok (.dup, 1) := by decide +kernel
theorem dX0_payDraws_72 : decode cX0_payDraws 72 = .ok (.getfield 268, 3) := by decide +kernel
theorem dX0_payDraws_75 : decode cX0_payDraws 75 = .ok (.lload_n 2, 1) := by decide +kernel
theorem dX0_payDraws_76 : decode cX0_payDraws 76 = .ok (.l2i, 1) := by decide +kernel
theorem dX0_payDraws_77 : decode cX0_payDraws 77 = .ok (.isub, 1) := by decide +kernel
theorem dX0_payDraws_78 : decode cX0_payDraws 78 = .ok (.putfield 268, 3) := by decide +kernel
theorem dX0_payDraws_81 : decode cX0_payDraws 81 = .ok (.aload_n 0, 1) := by decide +kernel
theorem dX0_payDraws_82 : decode cX0_payDraws 82 = .ok (.getfield 12, 3) := by decide +kernel
theorem dX0_payDraws_85 : decode cX0_payDraws 85 = .ok (.iload_n 1, 1) := by decide +kernel
theorem dX0_payDraws_86 : decode cX0_payDraws 86 = .ok (.lload_n 2, 1) := by decide +kernel
theorem dX0_payDraws_87 : decode cX0_payDraws 87 = .ok (.l2i, 1) := by decide +kernel
theorem dX0_payDraws_88 : decode cX0_payDraws 88 = .ok (.invokevirtual 271, 3) := by decide +kernel
theorem dX4_gain_0 : decode cX4_gain 0 = .ok (.aload_n 0, 1) := by decide +kernel
theorem dX4_gain_1 : decode cX4_gain 1 = .ok (.getfield 15, 3) := by decide +kernel
theorem dX4_gain_4 : decode cX4_gain 4 = .ok (.iload_n 1, 1) := by decide +kernel
theorem dX4_gain_5 : decode cX4_gain 5 = .ok (.aload_n 0, 1) := by decide +kernel
theorem dX4_gain_6 : decode cX4_gain 6 = .ok (.getfield 15, 3) := by decide +kernel
theorem dX4_gain_9 : decode cX4_gain 9 = .ok (.iload_n 1, 1) := by decide +kernel
theorem dX4_gain_10 : decode cX4_gain 10 = .ok (.iaload, 1) := by decide +kernel
theorem dX4_gain_11 : decode cX4_gain 11 = .ok (.iload_n 2, 1) := by decide +kernel
theorem dX4_gain_12 : decode cX4_gain 12 = .ok (.iadd, 1) := by decide +kernel
theorem dX4_gain_13 : decode cX4_gain 13 = .ok (.ldc 43, 2) := by decide +kernel
theorem dX4_gain_15 : decode cX4_gain 15 = .ok (.invokestatic 44, 3) := by decide +kernel
theorem dX4_gain_18 : decode cX4_gain 18 = .ok (.iastore, 1) := by decide +kernel
theorem dX4_gain_19 : decode cX4_gain 19 = .ok (.return_, 1) := by decide +kernel
theorem dX0_payDraws_39 : decode cX0_payDraws 39 = .ok (.goto 52, 3) := by decide +kernel
theorem dX0_payDraws_91 : decode cX0_payDraws 91 = .ok (.iinc 1 1, 3) := by decide +kernel
theorem dX0_payDraws_94 : decode cX0_payDraws 94 = .ok (.goto (-92), 3) := by decide +kernel
theorem dX0_payDraws_97 : decode cX0_payDraws 97 = .ok (.return_, 1) := by decide +kernel
theorem dX0_passWeek_96 : decode cX0_passWeek 96 = .ok (.aload_n 0, 1) := by decide +kernel
theorem dX0_passWeek_97 : decode cX0_passWeek 97 = .ok (.getfield 64, 3) := by decide +kernel
theorem dX0_passWeek_100 : decode cX0_passWeek 100 = .ok (.ifCond .eq 13, 3) := by decide +kernel
theorem dX0_passWeek_113 : decode cX0_passWeek 113 = .ok (.aload_n 0, 1) := by decide +kernel
theorem dX0_passWeek_114 : decode cX0_passWeek 114 = .ok (.invokevirtual 164, 3) := by decide +kernel
theorem dX0_renewBans_0 : decode cX0_renewBans 0 = .ok (.iconst 0, 1) := by decide +kernel
theorem dX0_renewBans_1 : decode cX0_renewBans 1 = .ok (.istore_n 1, 1) := by decide +kernel
theorem dX0_renewBans_2 : decode cX0_renewBans 2 = .ok (.iload_n 1, 1) := by decide +kernel
theorem dX0_renewBans_3 : decode cX0_renewBans 3 = .ok (.aload_n 0, 1) := by decide +kernel
theorem dX0_renewBans_4 : decode cX0_renewBans 4 = .ok (.getfield 12, 3) := by decide +kernel
theorem dX0_renewBans_7 : decode cX0_renewBans 7 = .ok (.getfield 263, 3) := by decide +kernel
theorem dX0_renewBans_10 : decode cX0_renewBans 10 = .ok (.if_icmp .ge 35, 3) := by decide +kernel
theorem dX0_renewBans_13 : decode cX0_renewBans 13 = .ok (.aload_n 0, 1) := by decide +kernel
theorem dX0_renewBans_14 : decode cX0_renewBans 14 = .ok (.getfield 12, 3) := by decide +kernel
theorem dX0_renewBans_17 : decode cX0_renewBans 17 = .ok (.getfield 274, 3) := by decide +kernel
theorem dX0_renewBans_20 : decode cX0_renewBans 20 = .ok (.iload_n 1, 1) := by decide +kernel
theorem dX0_renewBans_21 : decode cX0_renewBans 21 = .ok (.aload_n 0, 1) := by decide +kernel
theorem dX0_renewBans_22 : decode cX0_renewBans 22 = .ok (.sipush 263, 3) := by decide +kernel
theorem dX0_renewBans_25 : decode cX0_renewBans 25 = .ok (.iload_n 1, 1) := by decide +kernel
theorem dX0_renewBans_26 : decode cX0_renewBans 26 = .ok (.iconst (-1), 1) := by decide +kernel
theorem dX0_renewBans_27 : decode cX0_renewBans 27 = .ok (.invokevirtual 191, 3) := by decide +kernel
theorem dX0_renewBans_30 : decode cX0_renewBans 30 = .ok (.ifCond .eq 7, 3) := by decide +kernel
theorem dX0_renewBans_37 : decode cX0_renewBans 37 = .ok (.iconst 0, 1) := by decide +kernel
theorem dX0_renewBans_33 : decode cX0_renewBans 33 = .ok (.iconst 1, 1) := by decide +kernel
theorem dX0_renewBans_34 : decode cX0_renewBans 34 = .ok (.goto 4, 3) := by decide +kernel
theorem dX0_renewBans_38 : decode cX0_renewBans 38 = .ok (.iastore, 1) := by decide +kernel
theorem dX0_renewBans_39 : decode cX0_renewBans 39 = .ok (.iinc 1 1, 3) := by decide +kernel
theorem dX0_renewBans_42 : decode cX0_renewBans 42 = .ok (.goto (-40), 3) := by decide +kernel
theorem dX0_renewBans_45 : decode cX0_renewBans 45 = .ok (.aload_n 0, 1) := by decide +kernel
theorem dX0_renewBans_46 : decode cX0_renewBans 46 = .ok (.getfield 12, 3) := by decide +kernel
theorem dX0_renewBans_49 : decode cX0_renewBans 49 = .ok (.getfield 274, 3) := by decide +kernel
theorem dX0_renewBans_52 : decode cX0_renewBans 52 = .ok (.iconst 0, 1) := by decide +kernel
theorem dX0_renewBans_53 : decode cX0_renewBans 53 = .ok (.aload_n 0, 1) := by decide +kernel
theorem dX0_renewBans_54 : decode cX0_renewBans 54 = .ok (.getfield 12, 3) := by decide +kernel
theorem dX0_renewBans_57 : decode cX0_renewBans 57 = .ok (.getfield 277, 3) := by decide +kernel
theorem dX0_renewBans_60 : decode cX0_renewBans 60 = .ok (.iconst 0, 1) := by decide +kernel
theorem dX0_renewBans_61 : decode cX0_renewBans 61 = .ok (.aload_n 0, 1) := by decide +kernel
theorem dX0_renewBans_62 : decode cX0_renewBans 62 = .ok (.getfield 12, 3) := by decide +kernel
theorem dX0_renewBans_65 : decode cX0_renewBans 65 = .ok (.getfield 263, 3) := by decide +kernel
theorem dX0_renewBans_68 : decode cX0_renewBans 68 = .ok (.invokestatic 280, 3) := by decide +kernel
theorem dX0_renewBans_71 : decode cX0_renewBans 71 = .ok (.return_, 1) := by decide +kernel
theorem dX0_passWeek_103 : decode cX0_passWeek 103 = .ok (.aload_n 0, 1) := by decide +kernel
theorem dX0_passWeek_104 : decode cX0_passWeek 104 = .ok (.getfield 42, 3) := by decide +kernel
theorem dX0_passWeek_107 : decode cX0_passWeek 107 = .ok (.invokevirtual 160, 3) := by decide +kernel
theorem dX2_asksBanned_0 : decode cX2_asksBanned 0 = .ok (.iconst 0, 1) := by decide +kernel
theorem dX2_asksBanned_1 : decode cX2_asksBanned 1 = .ok (.istore_n 1, 1) := by decide +kernel
theorem dX2_asksBanned_2 : decode cX2_asksBanned 2 = .ok (.iload_n 1, 1) := by decide +kernel
theorem dX2_asksBanned_3 : decode cX2_asksBanned 3 = .ok (.aload_n 0, 1) := by decide +kernel
theorem dX2_asksBanned_4 : decode cX2_asksBanned 4 = .ok (.getfield 24, 3) := by decide +kernel
theorem dX2_asksBanned_7 : decode cX2_asksBanned 7 = .ok (.if_icmp .ge 29, 3) := by decide +kernel
theorem dX2_asksBanned_10 : decode cX2_asksBanned 10 = .ok (.aload_n 0, 1) := by decide +kernel
theorem dX2_asksBanned_11 : decode cX2_asksBanned 11 = .ok (.getfield 11, 3) := by decide +kernel
theorem dX2_asksBanned_14 : decode cX2_asksBanned 14 = .ok (.iload_n 1, 1) := by decide +kernel
theorem dX2_asksBanned_15 : decode cX2_asksBanned 15 = .ok (.aaload, 1) := by decide +kernel
theorem dX2_asksBanned_16 : decode cX2_asksBanned 16 = .ok (.astore_n 2, 1) := by decide +kernel
theorem dX2_asksBanned_17 : decode cX2_asksBanned 17 = .ok (.aload_n 2, 1) := by decide +kernel
theorem dX2_asksBanned_18 : decode cX2_asksBanned 18 = .ok (.ifnull 12, 3) := by decide +kernel
theorem dX2_asksBanned_30 : decode cX2_asksBanned 30 = .ok (.iinc 1 1, 3) := by decide +kernel
theorem dX2_asksBanned_33 : decode cX2_asksBanned 33 = .ok (.goto (-31), 3) := by decide +kernel
theorem dX2_asksBanned_21 : decode cX2_asksBanned 21 = .ok (.aload_n 2, 1) := by decide +kernel
theorem dX2_asksBanned_22 : decode cX2_asksBanned 22 = .ok (.getfield 53, 3) := by decide +kernel
theorem dX2_asksBanned_25 : decode cX2_asksBanned 25 = .ok (.ifCond .eq 5, 3) := by decide +kernel
theorem dX2_asksBanned_28 : decode cX2_asksBanned 28 = .ok (.iconst 1, 1) := by decide +kernel
theorem dX2_asksBanned_29 : decode cX2_asksBanned 29 = .ok (.ireturn, 1) := by decide +kernel
theorem dX2_asksBanned_36 : decode cX2_asksBanned 36 = .ok (.iconst 0, 1) := by decide +kernel
theorem dX2_asksBanned_37 : decode cX2_asksBanned 37 = .ok (.ireturn, 1) := by decide +kernel
theorem dX0_passWeek_110 : decode cX0_passWeek 110 = .ok (.ifCond .eq 7, 3) := by decide +kernel
theorem dX0_passWeek_117 : decode cX0_passWeek 117 = .ok (.aload_n 0, 1) := by decide +kernel
theorem dX0_passWeek_118 : decode cX0_passWeek 118 = .ok (.dup, 1) := by decide +kernel
theorem dX0_passWeek_119 : decode cX0_passWeek 119 = .ok (.getfield 93, 3) := by decide +kernel
theorem dX0_passWeek_122 : decode cX0_passWeek 122 = .ok (.iconst 1, 1) := by decide +kernel
theorem dX0_passWeek_123 : decode cX0_passWeek 123 = .ok (.iadd, 1) := by decide +kernel
theorem dX0_passWeek_124 : decode cX0_passWeek 124 = .ok (.putfield 93, 3) := by decide +kernel
theorem dX0_passWeek_127 : decode cX0_passWeek 127 = .ok (.return_, 1) := by decide +kernel
theorem dX0_passWeek_10 : decode cX0_passWeek 10 = .ok (.return_, 1) := by decide +kernel
theorem dX0_settle_0 : decode cX0_settle 0 = .ok (.aload_n 0, 1) := by decide +kernel
theorem dX0_settle_1 : decode cX0_settle 1 = .ok (.getfield 21, 3) := by decide +kernel
theorem dX0_settle_4 : decode cX0_settle 4 = .ok (.getfield 124, 3) := by decide +kernel
theorem dX0_settle_7 : decode cX0_settle 7 = .ok (.iload_n 2, 1) := by decide +kernel
theorem dX0_settle_8 : decode cX0_settle 8 = .ok (.iload_n 1, 1) := by decide +kernel
theorem dX0_settle_9 : decode cX0_settle 9 = .ok (.iastore, 1) := by decide +kernel
theorem dX0_settle_10 : decode cX0_settle 10 = .ok (.aload_n 0, 1) := by decide +kernel
theorem dX0_settle_11 : decode cX0_settle 11 = .ok (.getfield 21, 3) := by decide +kernel
theorem dX0_settle_14 : decode cX0_settle 14 = .ok (.getfield 127, 3) := by decide +kernel
theorem dX0_settle_17 : decode cX0_settle 17 = .ok (.iload_n 2, 1) := by decide +kernel
theorem dX0_settle_18 : decode cX0_settle 18 = .ok (.iload_n 3, 1) := by decide +kernel
theorem dX0_settle_19 : decode cX0_settle 19 = .ok (.iastore, 1) := by decide +kernel
theorem dX0_settle_20 : decode cX0_settle 20 = .ok (.aload_n 0, 1) := by decide +kernel
theorem dX0_settle_21 : decode cX0_settle 21 = .ok (.getfield 12, 3) := by decide +kernel
theorem dX0_settle_24 : decode cX0_settle 24 = .ok (.getfield 130, 3) := by decide +kernel
theorem dX0_settle_27 : decode cX0_settle 27 = .ok (.iload_n 1, 1) := by decide +kernel
theorem dX0_settle_28 : decode cX0_settle 28 = .ok (.iconst (-1), 1) := by decide +kernel
theorem dX0_settle_29 : decode cX0_settle 29 = .ok (.iastore, 1) := by decide +kernel
theorem dX0_settle_30 : decode cX0_settle 30 = .ok (.return_, 1) := by decide +kernel
theorem dX0_tellCrops_0 : decode cX0_tellCrops 0 = .ok (.aload_n 0, 1) := by decide +kernel
theorem dX0_tellCrops_1 : decode cX0_tellCrops 1 = .ok (.iconst 1, 1) := by decide +kernel
theorem dX0_tellCrops_2 : decode cX0_tellCrops 2 = .ok (.putfield 97, 3) := by decide +kernel
theorem dX0_tellCrops_5 : decode cX0_tellCrops 5 = .ok (.aload_n 0, 1) := by decide +kernel
theorem dX0_tellCrops_6 : decode cX0_tellCrops 6 = .ok (.iload_n 1, 1) := by decide +kernel
theorem dX0_tellCrops_7 : decode cX0_tellCrops 7 = .ok (.putfield 107, 3) := by decide +kernel
theorem dX0_tellCrops_10 : decode cX0_tellCrops 10 = .ok (.aload_n 0, 1) := by decide +kernel
theorem dX0_tellCrops_11 : decode cX0_tellCrops 11 = .ok (.iload_n 2, 1) := by decide +kernel
theorem dX0_tellCrops_12 : decode cX0_tellCrops 12 = .ok (.putfield 110, 3) := by decide +kernel
theorem dX0_tellCrops_15 : decode cX0_tellCrops 15 = .ok (.return_, 1) := by decide +kernel
theorem dX10_addGuard_0 : decode cX10_addGuard 0 = .ok (.aload_n 0, 1) := by decide +kernel
theorem dX10_addGuard_1 : decode cX10_addGuard 1 = .ok (.getfield 43, 3) := by decide +kernel
theorem dX10_addGuard_4 : decode cX10_addGuard 4 = .ok (.bipush 40, 2) := by decide +kernel
theorem dX10_addGuard_6 : decode cX10_addGuard 6 = .ok (.if_icmp .lt 4, 3) := by decide +kernel
theorem dX10_addGuard_10 : decode cX10_addGuard 10 = .ok (.aload_n 0, 1) := by decide +kernel
theorem dX10_addGuard_11 : decode cX10_addGuard 11 = .ok (.getfield 30, 3) := by decide +kernel
theorem dX10_addGuard_14 : decode cX10_addGuard 14 = .ok (.aload_n 0, 1) := by decide +kernel
theorem dX10_addGuard_15 : decode cX10_addGuard 15 = .ok (.getfield 43, 3) := by decide +kernel
theorem dX10_addGuard_18 : decode cX10_addGuard 18 = .ok (.iload_n 1, 1) := by decide +kernel
theorem dX10_addGuard_19 : decode cX10_addGuard 19 = .ok (.iastore, 1) := by decide +kernel
theorem dX10_addGuard_20 : decode cX10_addGuard 20 = .ok (.aload_n 0, 1) := by decide +kernel
theorem dX10_addGuard_21 : decode cX10_addGuard 21 = .ok (.getfield 33, 3) := by decide +kernel
theorem dX10_addGuard_24 : decode cX10_addGuard 24 = .ok (.aload_n 0, 1) := by decide +kernel
theorem dX10_addGuard_25 : decode cX10_addGuard 25 = .ok (.getfield 43, 3) := by decide +kernel
theorem dX10_addGuard_28 : decode cX10_addGuard 28 = .ok (.iload_n 2, 1) := by decide +kernel
theorem dX10_addGuard_29 : decode cX10_addGuard 29 = .ok (.iastore, 1) := by decide +kernel
theorem dX10_addGuard_30 : decode cX10_addGuard 30 = .ok (.aload_n 0, 1) := by decide +kernel
theorem dX10_addGuard_31 : decode cX10_addGuard 31 = .ok (.getfield 36, 3) := by decide +kernel
theorem dX10_addGuard_34 : decode cX10_addGuard 34 = .ok (.aload_n 0, 1) := by decide +kernel
theorem dX10_addGuard_35 : decode cX10_addGuard 35 = .ok (.getfield 43, 3) := by decide +kernel
theorem dX10_addGuard_38 : decode cX10_addGuard 38 = .ok (.iload_n 3, 1) := by decide +kernel
theorem dX10_addGuard_39 : decode cX10_addGuard 39 = .ok (.iastore, 1) := by decide +kernel
theorem dX10_addGuard_40 : decode cX10_addGuard 40 = .ok (.aload_n 0, 1) := by decide +kernel
theorem dX10_addGuard_41 : decode cX10_addGuard 41 = .ok (.dup, 1) := by decide +kernel
theorem dX10_addGuard_42 : decode cX10_addGuard 42 = .ok (.getfield 43, 3) := by decide +kernel
theorem dX10_addGuard_45 : decode cX10_addGuard 45 = .ok (.iconst 1, 1) := by decide +kernel
theorem dX10_addGuard_46 : decode cX10_addGuard 46 = .ok (.iadd, 1) := by decide +kernel
theorem dX10_addGuard_47 : decode cX10_addGuard 47 = .ok (.putfield 43, 3) := by decide +kernel
theorem dX10_addGuard_50 : decode cX10_addGuard 50 = .ok (.return_, 1) := by decide +kernel
theorem dX10_addGuard_9 : decode cX10_addGuard 9 = .ok (.return_, 1) := by decide +kernel
theorem dX10_leftOf_0 : decode cX10_leftOf 0 = .ok (.aload_n 0, 1) := by decide +kernel
theorem dX10_leftOf_1 : decode cX10_leftOf 1 = .ok (.iload_n 1, 1) := by decide +kernel
theorem dX10_leftOf_2 : decode cX10_leftOf 2 = .ok (.invokevirtual 46, 3) := by decide +kernel
theorem dX10_leftOf_5 : decode cX10_leftOf 5 = .ok (.istore_n 2, 1) := by decide +kernel
theorem dX10_leftOf_6 : decode cX10_leftOf 6 = .ok (.iload_n 2, 1) := by decide +kernel
theorem dX10_leftOf_7 : decode cX10_leftOf 7 = .ok (.iconst (-1), 1) := by decide +kernel
theorem dX10_leftOf_8 : decode cX10_leftOf 8 = .ok (.if_icmp .ne 7, 3) := by decide +kernel
theorem dX10_leftOf_15 : decode cX10_leftOf 15 = .ok (.aload_n 0, 1) := by decide +kernel
theorem dX10_leftOf_16 : decode cX10_leftOf 16 = .ok (.getfield 21, 3) := by decide +kernel
theorem dX10_leftOf_19 : decode cX10_leftOf 19 = .ok (.iload_n 2, 1) := by decide +kernel
theorem dX10_leftOf_20 : decode cX10_leftOf 20 = .ok (.iaload, 1) := by decide +kernel
theorem dX10_leftOf_11 : decode cX10_leftOf 11 = .ok (.iconst (-1), 1) := by decide +kernel
theorem dX10_leftOf_12 : decode cX10_leftOf 12 = .ok (.goto 9, 3) := by decide +kernel
theorem dX10_leftOf_21 : decode cX10_leftOf 21 = .ok (.ireturn, 1) := by decide +kernel
theorem dX10_stepOf_0 : decode cX10_stepOf 0 = .ok (.aload_n 0, 1) := by decide +kernel
theorem dX10_stepOf_1 : decode cX10_stepOf 1 = .ok (.iload_n 1, 1) := by decide +kernel
theorem dX10_stepOf_2 : decode cX10_stepOf 2 = .ok (.invokevirtual 46, 3) := by decide +kernel
theorem dX10_stepOf_5 : decode cX10_stepOf 5 = .ok (.istore_n 2, 1) := by decide +kernel
theorem dX10_stepOf_6 : decode cX10_stepOf 6 = .ok (.iload_n 2, 1) := by decide +kernel
theorem dX10_stepOf_7 : decode cX10_stepOf 7 = .ok (.iconst (-1), 1) := by decide +kernel
theorem dX10_stepOf_8 : decode cX10_stepOf 8 = .ok (.if_icmp .ne 7, 3) := by decide +kernel
theorem dX10_stepOf_15 : decode cX10_stepOf 15 = .ok (.aload_n 0, 1) := by decide +kernel
theorem dX10_stepOf_16 : decode cX10_stepOf 16 = .ok (.getfield 18, 3) := by decide +kernel
theorem dX10_stepOf_19 : decode cX10_stepOf 19 = .ok (.iload_n 2, 1) := by decide +kernel
theorem dX10_stepOf_20 : decode cX10_stepOf 20 = .ok (.iaload, 1) := by decide +kernel
theorem dX10_stepOf_11 : decode cX10_stepOf 11 = .ok (.iconst (-1), 1) := by decide +kernel
theorem dX10_stepOf_12 : decode cX10_stepOf 12 = .ok (.goto 9, 3) := by decide +kernel
theorem dX10_stepOf_21 : decode cX10_stepOf 21 = .ok (.ireturn, 1) := by decide +kernel
theorem dX11_accept_0 : decode cX11_accept 0 = .ok (.aload_n 0, 1) := by decide +kernel
theorem dX11_accept_1 : decode cX11_accept 1 = .ok (.iconst 0, 1) := by decide +kernel
theorem dX11_accept_2 : decode cX11_accept 2 = .ok (.putfield 356, 3) := by decide +kernel
theorem dX11_accept_5 : decode cX11_accept 5 = .ok (.iload_n 1, 1) := by decide +kernel
theorem dX11_accept_6 : decode cX11_accept 6 = .ok (.ireturn, 1) := by decide +kernel
theorem dX11_agree_0 : decode cX11_agree 0 = .ok (.iload_n 1, 1) := by decide +kernel
theorem dX11_agree_1 : decode cX11_agree 1 = .ok (.sipush (-10000), 3) := by decide +kernel
theorem dX11_agree_4 : decode cX11_agree 4 = .ok (.sipush 10000, 3) := by decide +kernel
theorem dX11_agree_7 : decode cX11_agree 7 = .ok (.invokestatic 54, 3) := by decide +kernel
theorem dX11_within_0 : decode cX11_within 0 = .ok (.iload_n 0, 1) := by decide +kernel
theorem dX11_within_1 : decode cX11_within 1 = .ok (.iload_n 1, 1) := by decide +kernel
theorem dX11_within_2 : decode cX11_within 2 = .ok (.if_icmp .lt 12, 3) := by decide +kernel
theorem dX11_within_14 : decode cX11_within 14 = .ok (.iconst 0, 1) := by decide +kernel
theorem dX11_within_15 : decode cX11_within 15 = .ok (.ireturn, 1) := by decide +kernel
theorem dX11_within_5 : decode cX11_within 5 = .ok (.iload_n 0, 1) := by decide +kernel
theorem dX11_within_6 : decode cX11_within 6 = .ok (.iload_n 2, 1) := by decide +kernel
theorem dX11_within_7 : decode cX11_within 7 = .ok (.if_icmp .gt 7, 3) := by decide +kernel
theorem dX11_within_10 : decode cX11_within 10 = .ok (.iconst 1, 1) := by decide +kernel
theorem dX11_within_11 : decode cX11_within 11 = .ok (.goto 4, 3) := by decide +kernel
theorem dX11_agree_10 : decode cX11_agree 10 = .ok (.ifCond .eq 16, 3) := by decide +kernel
theorem dX11_agree_26 : decode cX11_agree 26 = .ok (.iconst (-1), 1) := by decide +kernel
theorem dX11_agree_27 : decode cX11_agree 27 = .ok (.ireturn, 1) := by decide +kernel
theorem dX11_agree_13 : decode cX11_agree 13 = .ok (.iload_n 2, 1) := by decide +kernel
theorem dX11_agree_14 : decode cX11_agree 14 = .ok (.sipush (-10000), 3) := by decide +kernel
theorem dX11_agree_17 : decode cX11_agree 17 = .ok (.sipush 10000, 3) := by decide +kernel
theorem dX11_agree_20 : decode cX11_agree 20 = .ok (.invokestatic 54, 3) := by decide +kernel
theorem dX11_agree_23 : decode cX11_agree 23 = .ok (.ifCond .ne 5, 3) := by decide +kernel
theorem dX11_agree_28 : decode cX11_agree 28 = .ok (.aload_n 0, 1) := by decide +kernel
theorem dX11_agree_29 : decode cX11_agree 29 = .ok (.getfield 12, 3) := by decide +kernel
theorem dX11_agree_32 : decode cX11_agree 32 = .ok (.getfield 98, 3) := by decide +kernel
theorem dX11_agree_35 : decode cX11_agree 35 = .ok (.iload_n 1, 1) := by decide +kernel
theorem dX11_agree_36 : decode cX11_agree 36 = .ok (.iload_n 2, 1) := by decide +kernel
theorem dX11_agree_37 : decode cX11_agree 37 = .ok (.invokevirtual 303, 3) := by decide +kernel
theorem dX3_bestSet_0 : decode cX3_bestSet 0 = .ok (.iconst (-1), 1) := by decide +kernel
theorem dX3_bestSet_1 : decode cX3_bestSet 1 = .ok (.istore_n 3, 1) := by decide +kernel
theorem dX3_bestSet_2 : decode cX3_bestSet 2 = .ok (.iconst 0, 1) := by decide +kernel
theorem dX3_bestSet_3 : decode cX3_bestSet 3 = .ok (.istore 4, 2) := by decide +kernel
theorem dX3_bestSet_5 : decode cX3_bestSet 5 = .ok (.iconst 0, 1) := by decide +kernel
theorem dX3_bestSet_6 : decode cX3_bestSet 6 = .ok (.istore 5, 2) := by decide +kernel
theorem dX3_bestSet_8 : decode cX3_bestSet 8 = .ok (.iload 5, 2) := by decide +kernel
theorem dX3_bestSet_10 : decode cX3_bestSet 10 = .ok (.iconst 1, 1) := by decide +kernel
theorem dX3_bestSet_11 : decode cX3_bestSet 11 = .ok (.aload_n 0, 1) := by decide +kernel
theorem dX3_bestSet_12 : decode cX3_bestSet 12 = .ok (.getfield 22, 3) := by decide +kernel
theorem dX3_bestSet_15 : decode cX3_bestSet 15 = .ok (.ishl, 1) := by decide +kernel
theorem dX3_bestSet_16 : decode cX3_bestSet 16 = .ok (.if_icmp .ge 99, 3) := by decide +kernel
theorem dX3_bestSet_19 : decode cX3_bestSet 19 = .ok (.aload_n 0, 1) := by decide +kernel
theorem dX3_bestSet_20 : decode cX3_bestSet 20 = .ok (.iload 5, 2) := by decide +kernel
theorem dX3_bestSet_22 : decode cX3_bestSet 22 = .ok (.aload_n 0, 1) := by decide +kernel
theorem dX3_bestSet_23 : decode cX3_bestSet 23 = .ok (.getfield 15, 3) := by decide +kernel
theorem dX3_bestSet_26 : decode cX3_bestSet 26 = .ok (.invokevirtual 25, 3) := by decide +kernel
theorem dX3_sumOf_0 : decode cX3_sumOf 0 = .ok (.iconst 0, 1) := by decide +kernel
theorem dX3_sumOf_1 : decode cX3_sumOf 1 = .ok (.istore_n 3, 1) := by decide +kernel
theorem dX3_sumOf_2 : decode cX3_sumOf 2 = .ok (.iconst 0, 1) := by decide +kernel
theorem dX3_sumOf_3 : decode cX3_sumOf 3 = .ok (.istore 4, 2) := by decide +kernel
theorem dX3_sumOf_5 : decode cX3_sumOf 5 = .ok (.iload 4, 2) := by decide +kernel
theorem dX3_sumOf_7 : decode cX3_sumOf 7 = .ok (.aload_n 0, 1) := by decide +kernel
theorem dX3_sumOf_8 : decode cX3_sumOf 8 = .ok (.getfield 22, 3) := by decide +kernel
theorem dX3_sumOf_11 : decode cX3_sumOf 11 = .ok (.if_icmp .ge 37, 3) := by decide +kernel
theorem dX3_sumOf_14 : decode cX3_sumOf 14 = .ok (.iload 4, 2) := by decide +kernel
theorem dX3_sumOf_16 : decode cX3_sumOf 16 = .ok (.aload_n 2, 1) := by decide +kernel
theorem dX3_sumOf_17 : decode cX3_sumOf 17 = .ok (.arraylength, 1) := by decide +kernel
theorem dX3_sumOf_18 : decode cX3_sumOf 18 = .ok (.if_icmp .ge 30, 3) := by decide +kernel
theorem dX3_sumOf_21 : decode cX3_sumOf 21 = .ok (.iload_n 3, 1) := by decide +kernel
theorem dX3_sumOf_22 : decode cX3_sumOf 22 = .ok (.iload_n 1, 1) := by decide +kernel
theorem dX3_sumOf_23 : decode cX3_sumOf 23 = .ok (.iload 4, 2) := by decide +kernel
theorem dX3_sumOf_25 : decode cX3_sumOf 25 = .ok (.ishr, 1) := by decide +kernel
theorem dX3_sumOf_26 : decode cX3_sumOf 26 = .ok (.iconst 1, 1) := by decide +kernel
theorem dX3_sumOf_27 : decode cX3_sumOf 27 = .ok (.iand, 1) := by decide +kernel
theorem dX3_sumOf_28 : decode cX3_sumOf 28 = .ok (.iconst 1, 1) := by decide +kernel
theorem dX3_sumOf_29 : decode cX3_sumOf 29 = .ok (.if_icmp .ne 10, 3) := by decide +kernel
theorem dX3_sumOf_39 : decode cX3_sumOf 39 = .ok (.iconst 0, 1) := by decide +kernel
theorem dX3_sumOf_32 : decode cX3_sumOf 32 = .ok (.aload_n 2, 1) := by decide +kernel
theorem dX3_sumOf_33 : decode cX3_sumOf 33 = .ok (.iload 4, 2) := by decide +kernel
theorem dX3_sumOf_35 : decode cX3_sumOf 35 = .ok (.iaload, 1) := by decide +kernel
theorem dX3_sumOf_36 : decode cX3_sumOf 36 = .ok (.goto 4, 3) := by decide +kernel
theorem dX3_sumOf_40 : decode cX3_sumOf 40 = .ok (.iadd, 1) := by decide +kernel
theorem dX3_sumOf_41 : decode cX3_sumOf 41 = .ok (.istore_n 3, 1) := by decide +kernel
theorem dX3_sumOf_42 : decode cX3_sumOf 42 = .ok (.iinc 4 1, 3) := by decide +kernel
theorem dX3_sumOf_45 : decode cX3_sumOf 45 = .ok (.goto (-40), 3) := by decide +kernel
theorem dX3_sumOf_48 : decode cX3_sumOf 48 = .ok (.iload_n 3, 1) := by decide +kernel
theorem dX3_sumOf_49 : decode cX3_sumOf 49 = .ok (.ireturn, 1) := by decide +kernel
theorem dX3_bestSet_29 : decode cX3_bestSet 29 = .ok (.istore 6, 2) := by decide +kernel
theorem dX3_bestSet_31 : decode cX3_bestSet 31 = .ok (.aload_n 0, 1) := by decide +kernel
theorem dX3_bestSet_32 : decode cX3_bestSet 32 = .ok (.iload 5, 2) := by decide +kernel
theorem dX3_bestSet_34 : decode cX3_bestSet 34 = .ok (.aload_n 0, 1) := by decide +kernel
theorem dX3_bestSet_35 : decode cX3_bestSet 35 = .ok (.getfield 19, 3) := by decide +kernel
theorem dX3_bestSet_38 : decode cX3_bestSet 38 = .ok (.invokevirtual 25, 3) := by decide +kernel
theorem dX3_bestSet_41 : decode cX3_bestSet 41 = .ok (.istore 7, 2) := by decide +kernel
theorem dX3_bestSet_43 : decode cX3_bestSet 43 = .ok (.iload 6, 2) := by decide +kernel
theorem dX3_bestSet_45 : decode cX3_bestSet 45 = .ok (.iload_n 1, 1) := by decide +kernel
theorem dX3_bestSet_46 : decode cX3_bestSet 46 = .ok (.if_icmp .lt 63, 3) := by decide +kernel
theorem dX3_bestSet_49 : decode cX3_bestSet 49 = .ok (.iload 7, 2) := by decide +kernel
theorem dX3_bestSet_51 : decode cX3_bestSet 51 = .ok (.iload_n 2, 1) := by decide +kernel
theorem dX3_bestSet_52 : decode cX3_bestSet 52 = .ok (.if_icmp .ge 6, 3) := by decide +kernel
theorem dX3_bestSet_58 : decode cX3_bestSet 58 = .ok (.iload_n 3, 1) := by decide +kernel
theorem dX3_bestSet_59 : decode cX3_bestSet 59 = .ok (.iconst (-1), 1) := by decide +kernel
theorem dX3_bestSet_60 : decode cX3_bestSet 60 = .ok (.if_icmp .ne 7, 3) := by decide +kernel
theorem dX3_bestSet_63 : decode cX3_bestSet 63 = .ok (.iconst 1, 1) := by decide +kernel
theorem dX3_bestSet_64 : decode cX3_bestSet 64 = .ok (.goto 13, 3) := by decide +kernel
theorem dX3_bestSet_77 : decode cX3_bestSet 77 = .ok (.istore 8, 2) := by decide +kernel
theorem dX3_bestSet_79 : decode cX3_bestSet 79 = .ok (.iload 8, 2) := by decide +kernel
theorem dX3_bestSet_81 : decode cX3_bestSet 81 = .ok (.ifCond .gt 18, 3) := by decide +kernel
theorem dX3_bestSet_99 : decode cX3_bestSet 99 = .ok (.iload 5, 2) := by decide +kernel
theorem dX3_bestSet_101 : decode cX3_bestSet 101 = .ok (.istore_n 3, 1) := by decide +kernel
theorem dX3_bestSet_102 : decode cX3_bestSet 102 = .ok (.iload 6, 2) := by decide +kernel
theorem dX3_bestSet_104 : decode cX3_bestSet 104 = .ok (.iload 7, 2) := by decide +kernel
theorem dX3_bestSet_106 : decode cX3_bestSet 106 = .ok (.iadd, 1) := by decide +kernel
theorem dX3_bestSet_107 : decode cX3_bestSet 107 = .ok (.istore 4, 2) := by decide +kernel
theorem dX3_bestSet_55 : decode cX3_bestSet 55 = .ok (.goto 54, 3) := by decide +kernel
theorem dX3_bestSet_109 : decode cX3_bestSet 109 = .ok (.iinc 5 1, 3) := by decide +kernel
theorem dX3_bestSet_112 : decode cX3_bestSet 112 = .ok (.goto (-104), 3) := by decide +kernel
theorem dX3_bestSet_67 : decode cX3_bestSet 67 = .ok (.iload_n 3, 1) := by decide +kernel
theorem dX3_bestSet_68 : decode cX3_bestSet 68 = .ok (.invokestatic 29, 3) := by decide +kernel
theorem dJ6_bitCount_0f7a4_0 : decode cJ6_bitCount_0f7a4 0 = .ok (.iload_n 0, 1) := by decide +kernel
theorem dJ6_bitCount_0f7a4_1 : decode cJ6_bitCount_0f7a4 1 = .ok (.iload_n 0, 1) := by decide +kernel
theorem dJ6_bitCount_0f7a4_2 : decode cJ6_bitCount_0f7a4 2 = .ok (.iconst 1, 1) := by decide +kernel
theorem dJ6_bitCount_0f7a4_3 : decode cJ6_bitCount_0f7a4 3 = .ok (.iushr, 1) := by decide +kernel
theorem dJ6_bitCount_0f7a4_4 : decode cJ6_bitCount_0f7a4 4 = .ok (.ldc_w 265, 3) := by decide +kernel
theorem dJ6_bitCount_0f7a4_7 : decode cJ6_bitCount_0f7a4 7 = .ok (.iand, 1) := by decide +kernel
theorem dJ6_bitCount_0f7a4_8 : decode cJ6_bitCount_0f7a4 8 = .ok (.isub, 1) := by decide +kernel
theorem dJ6_bitCount_0f7a4_9 : decode cJ6_bitCount_0f7a4 9 = .ok (.istore_n 0, 1) := by decide +kernel
theorem dJ6_bitCount_0f7a4_10 : decode cJ6_bitCount_0f7a4 10 = .ok (.iload_n 0, 1) := by decide +kernel
theorem dJ6_bitCount_0f7a4_11 : decode cJ6_bitCount_0f7a4 11 = .ok (.ldc_w 266, 3) := by decide +kernel
theorem dJ6_bitCount_0f7a4_14 : decode cJ6_bitCount_0f7a4 14 = .ok (.iand, 1) := by decide +kernel
theorem dJ6_bitCount_0f7a4_15 : decode cJ6_bitCount_0f7a4 15 = .ok (.iload_n 0, 1) := by decide +kernel
theorem dJ6_bitCount_0f7a4_16 : decode cJ6_bitCount_0f7a4 16 = .ok (.iconst 2, 1) := by decide +kernel
theorem dJ6_bitCount_0f7a4_17 : decode cJ6_bitCount_0f7a4 17 = .ok (.iushr, 1) := by decide +kernel
theorem dJ6_bitCount_0f7a4_18 : decode cJ6_bitCount_0f7a4 18 = .ok (.ldc_w 266, 3) := by decide +kernel
theorem dJ6_bitCount_0f7a4_21 : decode cJ6_bitCount_0f7a4 21 = .ok (.iand, 1) := by decide +kernel
theorem dJ6_bitCount_0f7a4_22 : decode cJ6_bitCount_0f7a4 22 = .ok (.iadd, 1) := by decide +kernel
theorem dJ6_bitCount_0f7a4_23 : decode cJ6_bitCount_0f7a4 23 = .ok (.istore_n 0, 1) := by decide +kernel
theorem dJ6_bitCount_0f7a4_24 : decode cJ6_bitCount_0f7a4 24 = .ok (.iload_n 0, 1) := by decide +kernel
theorem dJ6_bitCount_0f7a4_25 : decode cJ6_bitCount_0f7a4 25 = .ok (.iload_n 0, 1) := by decide +kernel
theorem dJ6_bitCount_0f7a4_26 : decode cJ6_bitCount_0f7a4 26 = .ok (.iconst 4, 1) := by decide +kernel
theorem dJ6_bitCount_0f7a4_27 : decode cJ6_bitCount_0f7a4 27 = .ok (.iushr, 1) := by decide +kernel
theorem dJ6_bitCount_0f7a4_28 : decode cJ6_bitCount_0f7a4 28 = .ok (.iadd, 1) := by decide +kernel
theorem dJ6_bitCount_0f7a4_29 : decode cJ6_bitCount_0f7a4 29 = .ok (.ldc_w 267, 3) := by decide +kernel
theorem dJ6_bitCount_0f7a4_32 : decode cJ6_bitCount_0f7a4 32 = .ok (.iand, 1) := by decide +kernel
theorem dJ6_bitCount_0f7a4_33 : decode cJ6_bitCount_0f7a4 33 = .ok (.istore_n 0, 1) := by decide +kernel
theorem dJ6_bitCount_0f7a4_34 : decode cJ6_bitCount_0f7a4 34 = .ok (.iload_n 0, 1) := by decide +kernel
theorem dJ6_bitCount_0f7a4_35 : decode cJ6_bitCount_0f7a4 35 = .ok (.iload_n 0, 1) := by decide +kernel
theorem dJ6_bitCount_0f7a4_36 : decode cJ6_bitCount_0f7a4 36 = .ok (.bipush 8, 2) := by decide +kernel
theorem dJ6_bitCount_0f7a4_38 : decode cJ6_bitCount_0f7a4 38 = .ok (.iushr, 1) := by decide +kernel
theorem dJ6_bitCount_0f7a4_39 : decode cJ6_bitCount_0f7a4 39 = .ok (.iadd, 1) := by decide +kernel
theorem dJ6_bitCount_0f7a4_40 : decode cJ6_bitCount_0f7a4 40 = .ok (.istore_n 0, 1) := by decide +kernel
theorem dJ6_bitCount_0f7a4_41 : decode cJ6_bitCount_0f7a4 41 = .ok (.iload_n 0, 1) := by decide +kernel
theorem dJ6_bitCount_0f7a4_42 : decode cJ6_bitCount_0f7a4 42 = .ok (.iload_n 0, 1) := by decide +kernel
theorem dJ6_bitCount_0f7a4_43 : decode cJ6_bitCount_0f7a4 43 = .ok (.bipush 16, 2) := by decide +kernel
theorem dJ6_bitCount_0f7a4_45 : decode cJ6_bitCount_0f7a4 45 = .ok (.iushr, 1) := by decide +kernel
theorem dJ6_bitCount_0f7a4_46 : decode cJ6_bitCount_0f7a4 46 = .ok (.iadd, 1) := by decide +kernel
theorem dJ6_bitCount_0f7a4_47 : decode cJ6_bitCount_0f7a4 47 = .ok (.istore_n 0, 1) := by decide +kernel
theorem dJ6_bitCount_0f7a4_48 : decode cJ6_bitCount_0f7a4 48 = .ok (.iload_n 0, 1) := by decide +kernel
theorem dJ6_bitCount_0f7a4_49 : decode cJ6_bitCount_0f7a4 49 = .ok (.bipush 63, 2) := by decide +kernel
theorem dJ6_bitCount_0f7a4_51 : decode cJ6_bitCount_0f7a4 51 = .ok (.iand, 1) := by decide +kernel
theorem dJ6_bitCount_0f7a4_52 : decode cJ6_bitCount_0f7a4 52 = .ok (.ireturn, 1) := by decide +kernel
theorem dX3_bestSet_71 : decode cX3_bestSet 71 = .ok (.iload 5, 2) := by decide +kernel
theorem dX3_bestSet_73 : decode cX3_bestSet 73 = .ok (.invokestatic 29, 3) := by decide +kernel
theorem dX3_bestSet_76 : decode cX3_bestSet 76 = .ok (.isub, 1) := by decide +kernel
theorem dX3_bestSet_84 : decode cX3_bestSet 84 = .ok (.iload 8, 2) := by decide +kernel
theorem dX3_bestSet_86 : decode cX3_bestSet 86 = .ok (.ifCond .ne 23, 3) := by decide +kernel
theorem dX3_bestSet_89 : decode cX3_bestSet 89 = .ok (.iload 6, 2) := by decide +kernel
theorem dX3_bestSet_91 : decode cX3_bestSet 91 = .ok (.iload 7, 2) := by decide +kernel
theorem dX3_bestSet_93 : decode cX3_bestSet 93 = .ok (.iadd, 1) := by decide +kernel
theorem dX3_bestSet_94 : decode cX3_bestSet 94 = .ok (.iload 4, 2) := by decide +kernel
theorem dX3_bestSet_96 : decode cX3_bestSet 96 = .ok (.if_icmp .le 13, 3) := by decide +kernel
theorem dX3_bestSet_115 : decode cX3_bestSet 115 = .ok (.iload_n 3, 1) := by decide +kernel
theorem dX3_bestSet_116 : decode cX3_bestSet 116 = .ok (.ireturn, 1) := by decide +kernel
theorem dX11_agree_40 : decode cX11_agree 40 = .ok (.ireturn, 1) := by decide +kernel
theorem dX11_alter_0 : decode cX11_alter 0 = .ok (.iload_n 2, 1) := by decide +kernel
theorem dX11_alter_1 : decode cX11_alter 1 = .ok (.iconst 1, 1) := by decide +kernel
theorem dX11_alter_2 : decode cX11_alter 2 = .ok (.sipush 255, 3) := by decide +kernel
theorem dX11_alter_5 : decode cX11_alter 5 = .ok (.invokestatic 54, 3) := by decide +kernel
theorem dX11_alter_8 : decode cX11_alter 8 = .ok (.ifCond .ne 9, 3) := by decide +kernel
theorem dX11_alter_17 : decode cX11_alter 17 = .ok (.aload_n 0, 1) := by decide +kernel
theorem dX11_alter_18 : decode cX11_alter 18 = .ok (.getfield 12, 3) := by decide +kernel
theorem dX11_alter_21 : decode cX11_alter 21 = .ok (.getfield 114, 3) := by decide +kernel
theorem dX11_alter_24 : decode cX11_alter 24 = .ok (.iload_n 1, 1) := by decide +kernel
theorem dX11_alter_25 : decode cX11_alter 25 = .ok (.invokevirtual 150, 3) := by decide +kernel
theorem dX11_alter_28 : decode cX11_alter 28 = .ok (.ifCond .ne 10, 3) := by decide +kernel
theorem dX11_alter_38 : decode cX11_alter 38 = .ok (.aload_n 0, 1) := by decide +kernel
theorem dX11_alter_39 : decode cX11_alter 39 = .ok (.getfield 12, 3) := by decide +kernel
theorem dX11_alter_42 : decode cX11_alter 42 = .ok (.getfield 114, 3) := by decide +kernel
theorem dX11_alter_45 : decode cX11_alter 45 = .ok (.getfield 157, 3) := by decide +kernel
theorem dX11_alter_48 : decode cX11_alter 48 = .ok (.iload_n 1, 1) := by decide +kernel
theorem dX11_alter_49 : decode cX11_alter 49 = .ok (.dup2, 1) := by decide +kernel
theorem dX11_alter_50 : decode cX11_alter 50 = .ok (.iaload, 1) := by decide +kernel
theorem dX11_alter_51 : decode cX11_alter 51 = .ok (.iload_n 2, 1) := by decide +kernel
theorem dX11_alter_52 : decode cX11_alter 52 = .ok (.ixor, 1) := by decide +kernel
theorem dX11_alter_53 : decode cX11_alter 53 = .ok (.iastore, 1) := by decide +kernel
theorem dX11_alter_54 : decode cX11_alter 54 = .ok (.aload_n 0, 1) := by decide +kernel
theorem dX11_alter_55 : decode cX11_alter 55 = .ok (.aload_n 0, 1) := by decide +kernel
theorem dX11_alter_56 : decode cX11_alter 56 = .ok (.getfield 12, 3) := by decide +kernel
theorem dX11_alter_59 : decode cX11_alter 59 = .ok (.getfield 114, 3) := by decide +kernel
theorem dX11_alter_62 : decode cX11_alter 62 = .ok (.getfield 157, 3) := by decide +kernel
theorem dX11_alter_65 : decode cX11_alter 65 = .ok (.iload_n 1, 1) := by decide +kernel
theorem dX11_alter_66 : decode cX11_alter 66 = .ok (.iaload, 1) := by decide +kernel
theorem dX11_alter_67 : decode cX11_alter 67 = .ok (.invokevirtual 77, 3) := by decide +kernel
theorem dX11_alter_70 : decode cX11_alter 70 = .ok (.ireturn, 1) := by decide +kernel
theorem dX11_alter_31 : decode cX11_alter 31 = .ok (.aload_n 0, 1) := by decide +kernel
theorem dX11_alter_32 : decode cX11_alter 32 = .ok (.bipush (-2), 2) := by decide +kernel
theorem dX11_alter_34 : decode cX11_alter 34 = .ok (.invokevirtual 59, 3) := by decide +kernel
theorem dX11_refuse_0 : decode cX11_refuse 0 = .ok (.aload_n 0, 1) := by decide +kernel
theorem dX11_refuse_1 : decode cX11_refuse 1 = .ok (.iload_n 1, 1) := by decide +kernel
theorem dX11_refuse_2 : decode cX11_refuse 2 = .ok (.putfield 356, 3) := by decide +kernel
theorem dX11_refuse_5 : decode cX11_refuse 5 = .ok (.iload_n 1, 1) := by decide +kernel
theorem dX11_refuse_6 : decode cX11_refuse 6 = .ok (.ireturn, 1) := by decide +kernel
theorem dX11_alter_37 : decode cX11_alter 37 = .ok (.ireturn, 1) := by decide +kernel
theorem dX11_alter_11 : decode cX11_alter 11 = .ok (.aload_n 0, 1) := by decide +kernel
theorem dX11_alter_12 : decode cX11_alter 12 = .ok (.iconst (-1), 1) := by decide +kernel
theorem dX11_alter_13 : decode cX11_alter 13 = .ok (.invokevirtual 59, 3) := by decide +kernel
theorem dX11_alter_16 : decode cX11_alter 16 = .ok (.ireturn, 1) := by decide +kernel
theorem dX11_avoid_0 : decode cX11_avoid 0 = .ok (.aload_n 0, 1) := by decide +kernel
theorem dX11_avoid_1 : decode cX11_avoid 1 = .ok (.getfield 12, 3) := by decide +kernel
theorem dX11_avoid_4 : decode cX11_avoid 4 = .ok (.getfield 114, 3) := by decide +kernel
theorem dX11_avoid_7 : decode cX11_avoid 7 = .ok (.iload_n 1, 1) := by decide +kernel
theorem dX11_avoid_8 : decode cX11_avoid 8 = .ok (.invokevirtual 150, 3) := by decide +kernel
theorem dX11_avoid_11 : decode cX11_avoid 11 = .ok (.ifCond .ne 10, 3) := by decide +kernel
theorem dX11_avoid_21 : decode cX11_avoid 21 = .ok (.aload_n 0, 1) := by decide +kernel
theorem dX11_avoid_22 : decode cX11_avoid 22 = .ok (.getfield 12, 3) := by decide +kernel
theorem dX11_avoid_25 : decode cX11_avoid 25 = .ok (.getfield 170, 3) := by decide +kernel
theorem dX11_avoid_28 : decode cX11_avoid 28 = .ok (.iload_n 1, 1) := by decide +kernel
theorem dX11_avoid_29 : decode cX11_avoid 29 = .ok (.invokevirtual 248, 3) := by decide +kernel
theorem dX11_avoid_32 : decode cX11_avoid 32 = .ok (.istore_n 2, 1) := by decide +kernel
theorem dX11_avoid_33 : decode cX11_avoid 33 = .ok (.iload_n 2, 1) := by decide +kernel
theorem dX11_avoid_34 : decode cX11_avoid 34 = .ok (.iconst (-1), 1) := by decide +kernel
theorem dX11_avoid_35 : decode cX11_avoid 35 = .ok (.if_icmp .ne 10, 3) := by decide +kernel
theorem dX11_avoid_45 : decode cX11_avoid 45 = .ok (.aload_n 0, 1) := by decide +kernel
theorem dX11_avoid_46 : decode cX11_avoid 46 = .ok (.getfield 12, 3) := by decide +kernel
theorem dX11_avoid_49 : decode cX11_avoid 49 = .ok (.getfield 170, 3) := by decide +kernel
theorem dX11_avoid_52 : decode cX11_avoid 52 = .ok (.getfield 261, 3) := by decide +kernel
theorem dX11_avoid_55 : decode cX11_avoid 55 = .ok (.iload_n 2, 1) := by decide +kernel
theorem dX11_avoid_56 : decode cX11_avoid 56 = .ok (.iconst 0, 1) := by decide +kernel
theorem dX11_avoid_57 : decode cX11_avoid 57 = .ok (.iastore, 1) := by decide +kernel
theorem dX11_avoid_58 : decode cX11_avoid 58 = .ok (.aload_n 0, 1) := by decide +kernel
theorem dX11_avoid_59 : decode cX11_avoid 59 = .ok (.iconst 0, 1) := by decide +kernel
theorem dX11_avoid_60 : decode cX11_avoid 60 = .ok (.invokevirtual 77, 3) := by decide +kernel
theorem dX11_avoid_63 : decode cX11_avoid 63 = .ok (.ireturn, 1) := by decide +kernel
theorem dX11_avoid_38 : decode cX11_avoid 38 = .ok (.aload_n 0, 1) := by decide +kernel
theorem dX11_avoid_39 : decode cX11_avoid 39 = .ok (.bipush (-3), 2) := by decide +kernel
theorem dX11_avoid_41 : decode cX11_avoid 41 = .ok (.invokevirtual 59, 3) := by decide +kernel
theorem dX11_avoid_44 : decode cX11_avoid 44 = .ok (.ireturn, 1) := by decide +kernel
theorem dX11_avoid_14 : decode cX11_avoid 14 = .ok (.aload_n 0, 1) := by decide +kernel
theorem dX11_avoid_15 : decode cX11_avoid 15 = .ok (.bipush (-2), 2) := by decide +kernel
theorem dX11_avoid_17 : decode cX11_avoid 17 = .ok (.invokevirtual 59, 3) := by decide +kernel
theorem dX11_avoid_20 : decode cX11_avoid 20 = .ok (.ireturn, 1) := by decide +kernel
theorem dX11_back_0 : decode cX11_back 0 = .ok (.iload_n 1, 1) := by decide +kernel
theorem dX11_back_1 : decode cX11_back 1 = .ok (.iconst 0, 1) := by decide +kernel
theorem dX11_back_2 : decode cX11_back 2 = .ok (.iconst 1, 1) := by decide +kernel
theorem dX11_back_3 : decode cX11_back 3 = .ok (.invokestatic 54, 3) := by decide +kernel
theorem dX11_back_6 : decode cX11_back 6 = .ok (.ifCond .ne 9, 3) := by decide +kernel
theorem dX11_back_15 : decode cX11_back 15 = .ok (.iload_n 1, 1) := by decide +kernel
theorem dX11_back_16 : decode cX11_back 16 = .ok (.ifCond .ne 13, 3) := by decide +kernel
theorem dX11_back_29 : decode cX11_back 29 = .ok (.aload_n 0, 1) := by decide +kernel
theorem dX11_back_30 : decode cX11_back 30 = .ok (.getfield 353, 3) := by decide +kernel
theorem dX11_back_33 : decode cX11_back 33 = .ok (.ifCond .ne 10, 3) := by decide +kernel
theorem dX11_back_43 : decode cX11_back 43 = .ok (.aload_n 0, 1) := by decide +kernel
theorem dX11_back_44 : decode cX11_back 44 = .ok (.getfield 12, 3) := by decide +kernel
theorem dX11_back_47 : decode cX11_back 47 = .ok (.iload_n 1, 1) := by decide +kernel
theorem dX11_back_48 : decode cX11_back 48 = .ok (.ifCond .ne 10, 3) := by decide +kernel
theorem dX11_back_58 : decode cX11_back 58 = .ok (.aload_n 0, 1) := by decide +kernel
theorem dX11_back_59 : decode cX11_back 59 = .ok (.getfield 24, 3) := by decide +kernel
theorem dX11_back_62 : decode cX11_back 62 = .ok (.invokevirtual 345, 3) := by decide +kernel
theorem dX11_back_65 : decode cX11_back 65 = .ok (.aload_n 0, 1) := by decide +kernel
theorem dX11_back_66 : decode cX11_back 66 = .ok (.iconst 0, 1) := by decide +kernel
theorem dX11_back_67 : decode cX11_back 67 = .ok (.invokevirtual 77, 3) := by decide +kernel
theorem dX11_back_70 : decode cX11_back 70 = .ok (.ireturn, 1) := by decide +kernel
theorem dX11_back_36 : decode cX11_back 36 = .ok (.aload_n 0, 1) := by decide +kernel
theorem dX11_back_37 : decode cX11_back 37 = .ok (.bipush (-2), 2) := by decide +kernel
theorem dX11_back_39 : decode cX11_back 39 = .ok (.invokevirtual 59, 3) := by decide +kernel
theorem dX11_back_42 : decode cX11_back 42 = .ok (.ireturn, 1) := by decide +kernel
theorem dX11_back_19 : decode cX11_back 19 = .ok (.aload_n 0, 1) := by decide +kernel
theorem dX11_back_20 : decode cX11_back 20 = .ok (.getfield 349, 3) := by decide +kernel
theorem dX11_back_23 : decode cX11_back 23 = .ok (.ifCond .ne 20, 3) := by decide +kernel
theorem dX11_back_51 : decode cX11_back 51 = .ok (.aload_n 0, 1) := by decide +kernel
theorem dX11_back_52 : decode cX11_back 52 = .ok (.getfield 21, 3) := by decide +kernel
theorem dX11_back_55 : decode cX11_back 55 = .ok (.goto 7, 3) := by decide +kernel
theorem dX11_back_26 : decode cX11_back 26 = .ok (.goto 10, 3) := by decide +kernel
theorem dX11_back_9 : decode cX11_back 9 = .ok (.aload_n 0, 1) := by decide +kernel
theorem dX11_back_10 : decode cX11_back 10 = .ok (.iconst (-1), 1) := by decide +kernel
theorem dX11_back_11 : decode cX11_back 11 = .ok (.invokevirtual 59, 3) := by decide +kernel
theorem dX11_back_14 : decode cX11_back 14 = .ok (.ireturn, 1) := by decide +kernel
theorem dX11_beside_0 : decode cX11_beside 0 = .ok (.aload_n 0, 1) := by decide +kernel
theorem dX11_beside_1 : decode cX11_beside 1 = .ok (.iload_n 1, 1) := by decide +kernel
theorem dX11_beside_2 : decode cX11_beside 2 = .ok (.invokevirtual 273, 3) := by decide +kernel
theorem dX11_canGo_0 : decode cX11_canGo 0 = .ok (.iload_n 1, 1) := by decide +kernel
theorem dX11_canGo_1 : decode cX11_canGo 1 = .ok (.iconst 1, 1) := by decide +kernel
theorem dX11_canGo_2 : decode cX11_canGo 2 = .ok (.bipush 104, 2) := by decide +kernel
theorem dX11_canGo_4 : decode cX11_canGo 4 = .ok (.invokestatic 54, 3) := by decide +kernel
theorem dX11_canGo_7 : decode cX11_canGo 7 = .ok (.ifCond .eq 22, 3) := by decide +kernel
theorem dX11_canGo_29 : decode cX11_canGo 29 = .ok (.iconst 0, 1) := by decide +kernel
theorem dX11_canGo_30 : decode cX11_canGo 30 = .ok (.ireturn, 1) := by decide +kernel
theorem dX11_canGo_10 : decode cX11_canGo 10 = .ok (.aload_n 0, 1) := by decide +kernel
theorem dX11_canGo_11 : decode cX11_canGo 11 = .ok (.getfield 12, 3) := by decide +kernel
theorem dX11_canGo_14 : decode cX11_canGo 14 = .ok (.getfield 255, 3) := by decide +kernel
theorem dX11_canGo_17 : decode cX11_canGo 17 = .ok (.iload_n 1, 1) := by decide +kernel
theorem dX11_canGo_18 : decode cX11_canGo 18 = .ok (.iadd, 1) := by decide +kernel
theorem dX11_canGo_19 : decode cX11_canGo 19 = .ok (.sipush 399, 3) := by decide +kernel
theorem dX11_canGo_22 : decode cX11_canGo 22 = .ok (.if_icmp .gt 7, 3) := by decide +kernel
theorem dX11_canGo_25 : decode cX11_canGo 25 = .ok (.iconst 1, 1) := by decide +kernel
theorem dX11_canGo_26 : decode cX11_canGo 26 = .ok (.goto 4, 3) := by decide +kernel
theorem dX11_beside_5 : decode cX11_beside 5 = .ok (.ifCond .eq 22, 3) := by decide +kernel
theorem dX11_beside_27 : decode cX11_beside 27 = .ok (.iconst 0, 1) := by decide +kernel
theorem dX11_beside_8 : decode cX11_beside 8 = .ok (.aload_n 0, 1) := by decide +kernel
theorem dX11_beside_9 : decode cX11_beside 9 = .ok (.getfield 12, 3) := by decide +kernel
theorem dX11_beside_12 : decode cX11_beside 12 = .ok (.getfield 219, 3) := by decide +kernel
theorem dX11_beside_15 : decode cX11_beside 15 = .ok (.getfield 223, 3) := by decide +kernel
theorem dX11_beside_18 : decode cX11_beside 18 = .ok (.bipush 20, 2) := by decide +kernel
theorem dX11_beside_20 : decode cX11_beside 20 = .ok (.if_icmp .ge 7, 3) := by decide +kernel
theorem dX11_beside_23 : decode cX11_beside 23 = .ok (.iconst 1, 1) := by decide +kernel
theorem dX11_beside_24 : decode cX11_beside 24 = .ok (.goto 4, 3) := by decide +kernel
theorem dX11_beside_28 : decode cX11_beside 28 = .ok (.istore_n 2, 1) := by decide +kernel
theorem dX11_beside_29 : decode cX11_beside 29 = .ok (.iload_n 2, 1) := by decide +kernel
theorem dX11_beside_30 : decode cX11_beside 30 = .ok (.ifCond .eq 24, 3) := by decide +kernel
theorem dX11_beside_54 : decode cX11_beside 54 = .ok (.aconst_null, 1) := by decide +kernel
theorem dX11_beside_33 : decode cX11_beside 33 = .ok (.aload_n 0, 1) := by decide +kernel
theorem dX11_beside_34 : decode cX11_beside 34 = .ok (.getfield 37, 3) := by decide +kernel
theorem dX11_beside_37 : decode cX11_beside 37 = .ok (.aload_n 0, 1) := by decide +kernel
theorem dX11_beside_38 : decode cX11_beside 38 = .ok (.getfield 30, 3) := by decide +kernel
theorem dX11_beside_41 : decode cX11_beside 41 = .ok (.aload_n 0, 1) := by decide +kernel
theorem dX11_beside_42 : decode cX11_beside 42 = .ok (.getfield 12, 3) := by decide +kernel
theorem dX11_beside_45 : decode cX11_beside 45 = .ok (.getfield 255, 3) := by decide +kernel
theorem dX11_beside_48 : decode cX11_beside 48 = .ok (.invokevirtual 226, 3) := by decide +kernel
theorem dX5_read_0 : decode cX5_read 0 = .ok (.aload_n 0, 1) := by decide +kernel
theorem dX5_read_1 : decode cX5_read 1 = .ok (.aload_n 1, 1) := by decide +kernel
theorem dX5_read_2 : decode cX5_read 2 = .ok (.invokevirtual 46, 3) := by decide +kernel
theorem dX5_split_0 : decode cX5_split 0 = .ok (.aload_n 0, 1) := by decide +kernel
theorem dX5_split_1 : decode cX5_split 1 = .ok (.iconst 0, 1) := by decide +kernel
theorem dX5_split_2 : decode cX5_split 2 = .ok (.putfield 69, 3) := by decide +kernel
theorem dX5_split_5 : decode cX5_split 5 = .ok (.iconst 0, 1) := by decide +kernel
theorem dX5_split_6 : decode cX5_split 6 = .ok (.istore_n 2, 1) := by decide +kernel
theorem dX5_split_7 : decode cX5_split 7 = .ok (.iconst 0, 1) := by decide +kernel
theorem dX5_split_8 : decode cX5_split 8 = .ok (.istore_n 3, 1) := by decide +kernel
theorem dX5_split_9 : decode cX5_split 9 = .ok (.iload_n 3, 1) := by decide +kernel
theorem dX5_split_10 : decode cX5_split 10 = .ok (.aload_n 1, 1) := by decide +kernel
theorem dX5_split_11 : decode cX5_split 11 = .ok (.getfield 80, 3) := by decide +kernel
theorem dX5_split_14 : decode cX5_split 14 = .ok (.if_icmp .ge 140, 3) := by decide +kernel
theorem dX5_split_17 : decode cX5_split 17 = .ok (.aload_n 1, 1) := by decide +kernel
theorem dX5_split_18 : decode cX5_split 18 = .ok (.getfield 85, 3) := by decide +kernel
theorem dX5_split_21 : decode cX5_split 21 = .ok (.iload_n 3, 1) := by decide +kernel
theorem dX5_split_22 : decode cX5_split 22 = .ok (.iaload, 1) := by decide +kernel
theorem dX5_split_23 : decode cX5_split 23 = .ok (.istore 4, 2) := by decide +kernel
theorem dX5_split_25 : decode cX5_split 25 = .ok (.iload_n 3, 1) := by decide +kernel
theorem dX5_split_26 : decode cX5_split 26 = .ok (.iload_n 2, 1) := by decide +kernel
theorem dX5_split_27 : decode cX5_split 27 = .ok (.if_icmp .lt 121, 3) := by decide +kernel
theorem dX5_split_30 : decode cX5_split 30 = .ok (.iload 4, 2) := by decide +kernel
theorem dX5_split_32 : decode cX5_split 32 = .ok (.bipush 32, 2) := by decide +kernel
theorem dX5_split_34 : decode cX5_split 34 = .ok (.if_icmp .ne 6, 3) := by decide +kernel
theorem dX5_split_40 : decode cX5_split 40 = .ok (.aload_n 1, 1) := by decide +kernel
theorem dX5_split_41 : decode cX5_split 41 = .ok (.iload_n 3, 1) := by decide +kernel
theorem dX5_split_42 : decode cX5_split 42 = .ok (.invokestatic 88, 3) := by decide +kernel
theorem dX5_endOfRun_0 : decode cX5_endOfRun 0 = .ok (.aload_n 0, 1) := by decide +kernel
theorem dX5_endOfRun_1 : decode cX5_endOfRun 1 = .ok (.getfield 85, 3) := by decide +kernel
theorem dX5_endOfRun_4 : decode cX5_endOfRun 4 = .ok (.iload_n 1, 1) := by decide +kernel
theorem dX5_endOfRun_5 : decode cX5_endOfRun 5 = .ok (.iaload, 1) := by decide +kernel
theorem dX5_endOfRun_6 : decode cX5_endOfRun 6 = .ok (.istore_n 2, 1) := by decide +kernel
theorem dX5_endOfRun_7 : decode cX5_endOfRun 7 = .ok (.iload_n 1, 1) := by decide +kernel
theorem dX5_endOfRun_8 : decode cX5_endOfRun 8 = .ok (.iconst 1, 1) := by decide +kernel
theorem dX5_endOfRun_9 : decode cX5_endOfRun 9 = .ok (.iadd, 1) := by decide +kernel
theorem dX5_endOfRun_10 : decode cX5_endOfRun 10 = .ok (.istore_n 3, 1) := by decide +kernel
theorem dX5_endOfRun_11 : decode cX5_endOfRun 11 = .ok (.iload_n 3, 1) := by decide +kernel
theorem dX5_endOfRun_12 : decode cX5_endOfRun 12 = .ok (.aload_n 0, 1) := by decide +kernel
theorem dX5_endOfRun_13 : decode cX5_endOfRun 13 = .ok (.getfield 80, 3) := by decide +kernel
theorem dX5_endOfRun_16 : decode cX5_endOfRun 16 = .ok (.if_icmp .ge 47, 3) := by decide +kernel
theorem dX5_endOfRun_19 : decode cX5_endOfRun 19 = .ok (.iload_n 2, 1) := by decide +kernel
theorem dX5_endOfRun_20 : decode cX5_endOfRun 20 = .ok (.invokestatic 92, 3) := by decide +kernel
theorem dX5_isDigit_0 : decode cX5_isDigit 0 = .ok (.iload_n 0, 1) := by decide +kernel
theorem dX5_isDigit_1 : decode cX5_isDigit 1 = .ok (.bipush 48, 2) := by decide +kernel
theorem dX5_isDigit_3 : decode cX5_isDigit 3 = .ok (.if_icmp .lt 13, 3) := by decide +kernel
theorem dX5_isDigit_16 : decode cX5_isDigit 16 = .ok (.iconst 0, 1) := by decide +kernel
theorem dX5_isDigit_6 : decode cX5_isDigit 6 = .ok (.iload_n 0, 1) := by decide +kernel
theorem dX5_isDigit_7 : decode cX5_isDigit 7 = .ok (.bipush 57, 2) := by decide +kernel
theorem dX5_isDigit_9 : decode cX5_isDigit 9 = .ok (.if_icmp .gt 7, 3) := by decide +kernel
theorem dX5_isDigit_12 : decode cX5_isDigit 12 = .ok (.iconst 1, 1) := by decide +kernel
theorem dX5_isDigit_13 : decode cX5_isDigit 13 = .ok (.goto 4, 3) := by decide +kernel
theorem dX5_isDigit_17 : decode cX5_isDigit 17 = .ok (.ireturn, 1) := by decide +kernel
theorem dX5_endOfRun_23 : decode cX5_endOfRun 23 = .ok (.ifCond .eq 15, 3) := by decide +kernel
theorem dX5_endOfRun_38 : decode cX5_endOfRun 38 = .ok (.iload_n 2, 1) := by decide +kernel
theorem dX5_endOfRun_39 : decode cX5_endOfRun 39 = .ok (.invokestatic 100, 3) := by decide +kernel
theorem dX5_isLetter_0 : decode cX5_isLetter 0 = .ok (.iload_n 0, 1) := by decide +kernel
theorem dX5_isLetter_1 : decode cX5_isLetter 1 = .ok (.bipush 97, 2) := by decide +kernel
theorem dX5_isLetter_3 : decode cX5_isLetter 3 = .ok (.if_icmp .lt 13, 3) := by decide +kernel
theorem dX5_isLetter_16 : decode cX5_isLetter 16 = .ok (.iconst 0, 1) := by decide +kernel
theorem dX5_isLetter_6 : decode cX5_isLetter 6 = .ok (.iload_n 0, 1) := by decide +kernel
theorem dX5_isLetter_7 : decode cX5_isLetter 7 = .ok (.bipush 122, 2) := by decide +kernel
theorem dX5_isLetter_9 : decode cX5_isLetter 9 = .ok (.if_icmp .gt 7, 3) := by decide +kernel
theorem dX5_isLetter_12 : decode cX5_isLetter 12 = .ok (.iconst 1, 1) := by decide +kernel
theorem dX5_isLetter_13 : decode cX5_isLetter 13 = .ok (.goto 4, 3) := by decide +kernel
theorem dX5_isLetter_17 : decode cX5_isLetter 17 = .ok (.ireturn, 1) := by decide +kernel
theorem dX5_endOfRun_42 : decode cX5_endOfRun 42 = .ok (.ifCond .eq 21, 3) := by decide +kernel
theorem dX5_endOfRun_45 : decode cX5_endOfRun 45 = .ok (.aload_n 0, 1) := by decide +kernel
theorem dX5_endOfRun_46 : decode cX5_endOfRun 46 = .ok (.getfield 85, 3) := by decide +kernel
theorem dX5_endOfRun_49 : decode cX5_endOfRun 49 = .ok (.iload_n 3, 1) := by decide +kernel
theorem dX5_endOfRun_50 : decode cX5_endOfRun 50 = .ok (.iaload, 1) := by decide +kernel
theorem dX5_endOfRun_51 : decode cX5_endOfRun 51 = .ok (.invokestatic 100, 3) := by decide +kernel
theorem dX5_endOfRun_54 : decode cX5_endOfRun 54 = .ok (.ifCond .eq 9, 3) := by decide +kernel
theorem dX5_endOfRun_57 : decode cX5_endOfRun 57 = .ok (.iinc 3 1, 3) := by decide +kernel
theorem dX5_endOfRun_60 : decode cX5_endOfRun 60 = .ok (.goto (-49), 3) := by decide +kernel
theorem dX5_endOfRun_26 : decode cX5_endOfRun 26 = .ok (.aload_n 0, 1) := by decide +kernel
theorem dX5_endOfRun_27 : decode cX5_endOfRun 27 = .ok (.getfield 85, 3) := by decide +kernel
theorem dX5_endOfRun_30 : decode cX5_endOfRun 30 = .ok (.iload_n 3, 1) := by decide +kernel
theorem dX5_endOfRun_31 : decode cX5_endOfRun 31 = .ok (.iaload, 1) := by decide +kernel
theorem dX5_endOfRun_32 : decode cX5_endOfRun 32 = .ok (.invokestatic 92, 3) := by decide +kernel
theorem dX5_endOfRun_35 : decode cX5_endOfRun 35 = .ok (.ifCond .ne 22, 3) := by decide +kernel
theorem dX5_endOfRun_63 : decode cX5_endOfRun 63 = .ok (.iload_n 3, 1) := by decide +kernel
theorem dX5_endOfRun_64 : decode cX5_endOfRun 64 = .ok (.ireturn, 1) := by decide +kernel
theorem dX5_split_45 : decode cX5_split 45 = .ok (.istore_n 2, 1) := by decide +kernel
theorem dX5_split_46 : decode cX5_split 46 = .ok (.aload_n 0, 1) := by decide +kernel
theorem dX5_split_47 : decode cX5_split 47 = .ok (.getfield 40, 3) := by decide +kernel
theorem dX5_split_50 : decode cX5_split 50 = .ok (.aload_n 0, 1) := by decide +kernel
theorem dX5_split_51 : decode cX5_split 51 = .ok (.getfield 69, 3) := by decide +kernel
theorem dX5_split_54 : decode cX5_split 54 = .ok (.iload_n 3, 1) := by decide +kernel
theorem dX5_split_55 : decode cX5_split 55 = .ok (.iastore, 1) := by decide +kernel
theorem dX5_split_56 : decode cX5_split 56 = .ok (.aload_n 0, 1) := by decide +kernel
theorem dX5_split_57 : decode cX5_split 57 = .ok (.getfield 43, 3) := by decide +kernel
theorem dX5_split_60 : decode cX5_split 60 = .ok (.aload_n 0, 1) := by decide +kernel
theorem dX5_split_61 : decode cX5_split 61 = .ok (.getfield 69, 3) := by decide +kernel
theorem dX5_split_64 : decode cX5_split 64 = .ok (.iconst 0, 1) := by decide +kernel
theorem dX5_split_65 : decode cX5_split 65 = .ok (.iastore, 1) := by decide +kernel
theorem dX5_split_66 : decode cX5_split 66 = .ok (.aload_n 0, 1) := by decide +kernel
theorem dX5_split_67 : decode cX5_split 67 = .ok (.getfield 37, 3) := by decide +kernel
theorem dX5_split_70 : decode cX5_split 70 = .ok (.aload_n 0, 1) := by decide +kernel
theorem dX5_split_71 : decode cX5_split 71 = .ok (.getfield 69, 3) := by decide +kernel
theorem dX5_split_74 : decode cX5_split 74 = .ok (.iload 4, 2) := by decide +kernel
theorem dX5_split_76 : decode cX5_split 76 = .ok (.iastore, 1) := by decide +kernel
theorem dX5_split_77 : decode cX5_split 77 = .ok (.iload 4, 2) := by decide +kernel
theorem dX5_split_79 : decode cX5_split 79 = .ok (.invokestatic 92, 3) := by decide +kernel
theorem dX5_split_82 : decode cX5_split 82 = .ok (.ifCond .eq 33, 3) := by decide +kernel
theorem dX5_split_115 : decode cX5_split 115 = .ok (.iload 4, 2) := by decide +kernel
theorem dX5_split_117 : decode cX5_split 117 = .ok (.invokestatic 100, 3) := by decide +kernel
theorem dX5_split_120 : decode cX5_split 120 = .ok (.ifCond .eq 18, 3) := by decide +kernel
theorem dX5_split_123 : decode cX5_split 123 = .ok (.aload_n 0, 1) := by decide +kernel
theorem dX5_split_124 : decode cX5_split 124 = .ok (.getfield 37, 3) := by decide +kernel
theorem dX5_split_127 : decode cX5_split 127 = .ok (.aload_n 0, 1) := by decide +kernel
theorem dX5_split_128 : decode cX5_split 128 = .ok (.getfield 69, 3) := by decide +kernel
theorem dX5_split_131 : decode cX5_split 131 = .ok (.aload_n 1, 1) := by decide +kernel
theorem dX5_split_132 : decode cX5_split 132 = .ok (.iload_n 3, 1) := by decide +kernel
theorem dX5_split_133 : decode cX5_split 133 = .ok (.iload_n 2, 1) := by decide +kernel
theorem dX5_split_134 : decode cX5_split 134 = .ok (.invokestatic 103, 3) := by decide +kernel
theorem dX5_wordIn_0 : decode cX5_wordIn 0 = .ok (.sipush 256, 3) := by decide +kernel
theorem dX5_wordIn_3 : decode cX5_wordIn 3 = .ok (.istore_n 3, 1) := by decide +kernel
theorem dX5_wordIn_4 : decode cX5_wordIn 4 = .ok (.iload_n 2, 1) := by decide +kernel
theorem dX5_wordIn_5 : decode cX5_wordIn 5 = .ok (.iload_n 1, 1) := by decide +kernel
theorem dX5_wordIn_6 : decode cX5_wordIn 6 = .ok (.isub, 1) := by decide +kernel
theorem dX5_wordIn_7 : decode cX5_wordIn 7 = .ok (.istore 4, 2) := by decide +kernel
theorem dX5_wordIn_9 : decode cX5_wordIn 9 = .ok (.iconst 0, 1) := by decide +kernel
theorem dX5_wordIn_10 : decode cX5_wordIn 10 = .ok (.istore 5, 2) := by decide +kernel
theorem dX5_wordIn_12 : decode cX5_wordIn 12 = .ok (.iconst 0, 1) := by decide +kernel
theorem dX5_wordIn_13 : decode cX5_wordIn 13 = .ok (.istore 6, 2) := by decide +kernel
theorem dX5_wordIn_15 : decode cX5_wordIn 15 = .ok (.iload 6, 2) := by decide +kernel
theorem dX5_wordIn_17 : decode cX5_wordIn 17 = .ok (.ldc 113, 2) := by decide +kernel
theorem dX5_split_137 : decode cX5_split 137 = .ok (.iastore, 1) := by decide +kernel
theorem dX5_split_85 : decode cX5_split 85 = .ok (.aload_n 0, 1) := by decide +kernel
theorem dX5_split_86 : decode cX5_split 86 = .ok (.getfield 37, 3) := by decide +kernel
theorem dX5_split_89 : decode cX5_split 89 = .ok (.aload_n 0, 1) := by decide +kernel
theorem dX5_split_90 : decode cX5_split 90 = .ok (.getfield 69, 3) := by decide +kernel
theorem dX5_split_93 : decode cX5_split 93 = .ok (.sipush 301, 3) := by decide +kernel
theorem dX5_split_96 : decode cX5_split 96 = .ok (.iastore, 1) := by decide +kernel
theorem dX5_split_97 : decode cX5_split 97 = .ok (.aload_n 0, 1) := by decide +kernel
theorem dX5_split_98 : decode cX5_split 98 = .ok (.getfield 43, 3) := by decide +kernel
theorem dX5_split_101 : decode cX5_split 101 = .ok (.aload_n 0, 1) := by decide +kernel
theorem dX5_split_102 : decode cX5_split 102 = .ok (.getfield 69, 3) := by decide +kernel
theorem dX5_split_105 : decode cX5_split 105 = .ok (.aload_n 1, 1) := by decide +kernel
theorem dX5_split_106 : decode cX5_split 106 = .ok (.iload_n 3, 1) := by decide +kernel
theorem dX5_split_107 : decode cX5_split 107 = .ok (.iload_n 2, 1) := by decide +kernel
theorem dX5_split_108 : decode cX5_split 108 = .ok (.invokestatic 96, 3) := by decide +kernel
theorem dX5_numberIn_0 : decode cX5_numberIn 0 = .ok (.iconst 0, 1) := by decide +kernel
theorem dX5_numberIn_1 : decode cX5_numberIn 1 = .ok (.istore_n 3, 1) := by decide +kernel
theorem dX5_numberIn_2 : decode cX5_numberIn 2 = .ok (.iload_n 1, 1) := by decide +kernel
theorem dX5_numberIn_3 : decode cX5_numberIn 3 = .ok (.istore 4, 2) := by decide +kernel
theorem dX5_numberIn_5 : decode cX5_numberIn 5 = .ok (.iload 4, 2) := by decide +kernel
theorem dX5_numberIn_7 : decode cX5_numberIn 7 = .ok (.iload_n 2, 1) := by decide +kernel
theorem dX5_numberIn_8 : decode cX5_numberIn 8 = .ok (.if_icmp .ge 30, 3) := by decide +kernel
theorem dX5_numberIn_11 : decode cX5_numberIn 11 = .ok (.iload_n 3, 1) := by decide +kernel
theorem dX5_numberIn_12 : decode cX5_numberIn 12 = .ok (.bipush 10, 2) := by decide +kernel
theorem dX5_numberIn_14 : decode cX5_numberIn 14 = .ok (.imul, 1) := by decide +kernel
theorem dX5_numberIn_15 : decode cX5_numberIn 15 = .ok (.aload_n 0, 1) := by decide +kernel
theorem dX5_numberIn_16 : decode cX5_numberIn 16 = .ok (.getfield 85, 3) := by decide +kernel
theorem dX5_numberIn_19 : decode cX5_numberIn 19 = .ok (.iload 4, 2) := by decide +kernel
theorem dX5_numberIn_21 : decode cX5_numberIn 21 = .ok (.iaload, 1) := by decide +kernel
theorem dX5_numberIn_22 : decode cX5_numberIn 22 = .ok (.iadd, 1) := by decide +kernel
theorem dX5_numberIn_23 : decode cX5_numberIn 23 = .ok (.bipush 48, 2) := by decide +kernel
theorem dX5_numberIn_25 : decode cX5_numberIn 25 = .ok (.isub, 1) := by decide +kernel
theorem dX5_numberIn_26 : decode cX5_numberIn 26 = .ok (.ldc 106, 2) := by decide +kernel
theorem dX5_numberIn_28 : decode cX5_numberIn 28 = .ok (.invokestatic 107, 3) := by decide +kernel
theorem dX5_numberIn_31 : decode cX5_numberIn 31 = .ok (.istore_n 3, 1) := by decide +kernel
theorem dX5_numberIn_32 : decode cX5_numberIn 32 = .ok (.iinc 4 1, 3) := by decide +kernel
theorem dX5_numberIn_35 : decode cX5_numberIn 35 = .ok (.goto (-30), 3) := by decide +kernel
theorem dX5_numberIn_38 : decode cX5_numberIn 38 = .ok (.iload_n 3, 1) := by decide +kernel
theorem dX5_numberIn_39 : decode cX5_numberIn 39 = .ok (.ireturn, 1) := by decide +kernel
theorem dX5_split_111 : decode cX5_split 111 = .ok (.iastore, 1) := by decide +kernel
theorem dX5_split_112 : decode cX5_split 112 = .ok (.goto 26, 3) := by decide +kernel
theorem dX5_split_138 : decode cX5_split 138 = .ok (.aload_n 0, 1) := by decide +kernel
theorem dX5_split_139 : decode cX5_split 139 = .ok (.dup, 1) := by decide +kernel
theorem dX5_split_140 : decode cX5_split 140 = .ok (.getfield 69, 3) := by decide +kernel
theorem dX5_split_143 : decode cX5_split 143 = .ok (.iconst 1, 1) := by decide +kernel
theorem dX5_split_144 : decode cX5_split 144 = .ok (.iadd, 1) := by decide +kernel
theorem dX5_split_145 : decode cX5_split 145 = .ok (.putfield 69, 3) := by decide +kernel
theorem dX5_split_37 : decode cX5_split 37 = .ok (.goto 111, 3) := by decide +kernel
theorem dX5_split_148 : decode cX5_split 148 = .ok (.iinc 3 1, 3) := by decide +kernel
theorem dX5_split_151 : decode cX5_split 151 = .ok (.goto (-142), 3) := by decide +kernel
theorem dX5_split_154 : decode cX5_split 154 = .ok (.aload_n 0, 1) := by decide +kernel
theorem dX5_split_155 : decode cX5_split 155 = .ok (.getfield 40, 3) := by decide +kernel
theorem dX5_split_158 : decode cX5_split 158 = .ok (.aload_n 0, 1) := by decide +kernel
theorem dX5_split_159 : decode cX5_split 159 = .ok (.getfield 69, 3) := by decide +kernel
theorem dX5_split_162 : decode cX5_split 162 = .ok (.aload_n 1, 1) := by decide +kernel
theorem dX5_split_163 : decode cX5_split 163 = .ok (.getfield 80, 3) := by decide +kernel
theorem dX5_split_166 : decode cX5_split 166 = .ok (.iastore, 1) := by decide +kernel
theorem dX5_split_167 : decode cX5_split 167 = .ok (.aload_n 0, 1) := by decide +kernel
theorem dX5_split_168 : decode cX5_split 168 = .ok (.getfield 37, 3) := by decide +kernel
theorem dX5_split_171 : decode cX5_split 171 = .ok (.aload_n 0, 1) := by decide +kernel
theorem dX5_split_172 : decode cX5_split 172 = .ok (.getfield 69, 3) := by decide +kernel
theorem dX5_split_175 : decode cX5_split 175 = .ok (.sipush 302, 3) := by decide +kernel
theorem dX5_split_178 : decode cX5_split 178 = .ok (.iastore, 1) := by decide +kernel
theorem dX5_split_179 : decode cX5_split 179 = .ok (.return_, 1) := by decide +kernel
theorem dX5_read_5 : decode cX5_read 5 = .ok (.aload_n 0, 1) := by decide +kernel
theorem dX5_read_6 : decode cX5_read 6 = .ok (.iconst (-1), 1) := by decide +kernel
theorem dX5_read_7 : decode cX5_read 7 = .ok (.putfield 9, 3) := by decide +kernel
theorem dX5_read_10 : decode cX5_read 10 = .ok (.aload_n 0, 1) := by decide +kernel
theorem dX5_read_11 : decode cX5_read 11 = .ok (.iconst 0, 1) := by decide +kernel
theorem dX5_read_12 : decode cX5_read 12 = .ok (.putfield 50, 3) := by decide +kernel
theorem dX5_read_15 : decode cX5_read 15 = .ok (.aload_n 0, 1) := by decide +kernel
theorem dX5_read_16 : decode cX5_read 16 = .ok (.iconst 0, 1) := by decide +kernel
theorem dX5_read_17 : decode cX5_read 17 = .ok (.putfield 53, 3) := by decide +kernel
theorem dX5_read_20 : decode cX5_read 20 = .ok (.aload_n 0, 1) := by decide +kernel
theorem dX5_read_21 : decode cX5_read 21 = .ok (.iconst 0, 1) := by decide +kernel
theorem dX5_read_22 : decode cX5_read 22 = .ok (.putfield 57, 3) := by decide +kernel
theorem dX5_read_25 : decode cX5_read 25 = .ok (.aload_n 0, 1) := by decide +kernel
theorem dX5_read_26 : decode cX5_read 26 = .ok (.iconst 0, 1) := by decide +kernel
theorem dX5_read_27 : decode cX5_read 27 = .ok (.putfield 60, 3) := by decide +kernel
theorem dX5_read_30 : decode cX5_read 30 = .ok (.aload_n 0, 1) := by decide +kernel
theorem dX5_read_31 : decode cX5_read 31 = .ok (.iconst 0, 1) := by decide +kernel
theorem dX5_read_32 : decode cX5_read 32 = .ok (.putfield 63, 3) := by decide +kernel
theorem dX5_read_35 : decode cX5_read 35 = .ok (.aload_n 0, 1) := by decide +kernel
theorem dX5_read_36 : decode cX5_read 36 = .ok (.invokevirtual 66, 3) := by decide +kernel
theorem dX5_readClause_0 : decode cX5_readClause 0 = .ok (.aload_n 0, 1) := by decide +kernel
theorem dX5_readClause_1 : decode cX5_readClause 1 = .ok (.getfield 50, 3) := by decide +kernel
theorem dX5_readClause_4 : decode cX5_readClause 4 = .ok (.bipush 12, 2) := by decide +kernel
theorem dX5_readClause_6 : decode cX5_readClause 6 = .ok (.if_icmp .lt 8, 3) := by decide +kernel
theorem dX5_readClause_14 : decode cX5_readClause 14 = .ok (.aload_n 0, 1) := by decide +kernel
theorem dX5_readClause_15 : decode cX5_readClause 15 = .ok (.getfield 50, 3) := by decide +kernel
theorem dX5_readClause_18 : decode cX5_readClause 18 = .ok (.istore_n 1, 1) := by decide +kernel
theorem dX5_readClause_19 : decode cX5_readClause 19 = .ok (.aload_n 0, 1) := by decide +kernel
theorem dX5_readClause_20 : decode cX5_readClause 20 = .ok (.getfield 37, 3) := by decide +kernel
theorem dX5_readClause_23 : decode cX5_readClause 23 = .ok (.aload_n 0, 1) := by decide +kernel
theorem dX5_readClause_24 : decode cX5_readClause 24 = .ok (.getfield 60, 3) := by decide +kernel
theorem dX5_readClause_27 : decode cX5_readClause 27 = .ok (.iaload, 1) := by decide +kernel
theorem dX5_readClause_28 : decode cX5_readClause 28 = .ok (.istore_n 2, 1) := by decide +kernel
theorem dX5_readClause_29 : decode cX5_readClause 29 = .ok (.iconst 0, 1) := by decide +kernel
theorem dX5_readClause_30 : decode cX5_readClause 30 = .ok (.istore_n 3, 1) := by decide +kernel
theorem dX5_readClause_31 : decode cX5_readClause 31 = .ok (.aload_n 0, 1) := by decide +kernel
theorem dX5_readClause_32 : decode cX5_readClause 32 = .ok (.dup, 1) := by decide +kernel
theorem dX5_readClause_33 : decode cX5_readClause 33 = .ok (.getfield 50, 3) := by decide +kernel
theorem dX5_readClause_36 : decode cX5_readClause 36 = .ok (.iconst 1, 1) := by decide +kernel
theorem dX5_readClause_37 : decode cX5_readClause 37 = .ok (.iadd, 1) := by decide +kernel
theorem dX5_readClause_38 : decode cX5_readClause 38 = .ok (.putfield 50, 3) := by decide +kernel
theorem dX5_readClause_41 : decode cX5_readClause 41 = .ok (.aload_n 0, 1) := by decide +kernel
theorem dX5_readClause_42 : decode cX5_readClause 42 = .ok (.getfield 15, 3) := by decide +kernel
theorem dX5_readClause_45 : decode cX5_readClause 45 = .ok (.iload_n 1, 1) := by decide +kernel
theorem dX5_readClause_46 : decode cX5_readClause 46 = .ok (.iload_n 2, 1) := by decide +kernel
theorem dX5_readClause_47 : decode cX5_readClause 47 = .ok (.iastore, 1) := by decide +kernel
theorem dX5_readClause_48 : decode cX5_readClause 48 = .ok (.aload_n 0, 1) := by decide +kernel
theorem dX5_readClause_49 : decode cX5_readClause 49 = .ok (.getfield 19, 3) := by decide +kernel
theorem dX5_readClause_52 : decode cX5_readClause 52 = .ok (.iload_n 1, 1) := by decide +kernel
theorem dX5_readClause_53 : decode cX5_readClause 53 = .ok (.iconst 0, 1) := by decide +kernel
theorem dX5_readClause_54 : decode cX5_readClause 54 = .ok (.iastore, 1) := by decide +kernel
theorem dX5_readClause_55 : decode cX5_readClause 55 = .ok (.aload_n 0, 1) := by decide +kernel
theorem dX5_readClause_56 : decode cX5_readClause 56 = .ok (.getfield 22, 3) := by decide +kernel
theorem dX5_readClause_59 : decode cX5_readClause 59 = .ok (.iload_n 1, 1) := by decide +kernel
theorem dX5_readClause_60 : decode cX5_readClause 60 = .ok (.iconst 0, 1) := by decide +kernel
theorem dX5_readClause_61 : decode cX5_readClause 61 = .ok (.iastore, 1) := by decide +kernel
theorem dX5_readClause_62 : decode cX5_readClause 62 = .ok (.aload_n 0, 1) := by decide +kernel
theorem dX5_readClause_63 : decode cX5_readClause 63 = .ok (.getfield 25, 3) := by decide +kernel
theorem dX5_readClause_66 : decode cX5_readClause 66 = .ok (.iload_n 1, 1) := by decide +kernel
theorem dX5_readClause_67 : decode cX5_readClause 67 = .ok (.aload_n 0, 1) := by decide +kernel
theorem dX5_readClause_68 : decode cX5_readClause 68 = .ok (.getfield 57, 3) := by decide +kernel
theorem dX5_readClause_71 : decode cX5_readClause 71 = .ok (.iastore, 1) := by decide +kernel
theorem dX5_readClause_72 : decode cX5_readClause 72 = .ok (.iload_n 2, 1) := by decide +kernel
theorem dX5_readClause_73 : decode cX5_readClause 73 = .ok (.sipush 256, 3) := by decide +kernel
theorem dX5_readClause_76 : decode cX5_readClause 76 = .ok (.if_icmp .ne 49, 3) := by decide +kernel
theorem dX5_readClause_125 : decode cX5_readClause 125 = .ok (.iload_n 2, 1) := by decide +kernel
theorem dX5_readClause_126 : decode cX5_readClause 126 = .ok (.sipush 258, 3) := by decide +kernel
theorem dX5_readClause_129 : decode cX5_readClause 129 = .ok (.if_icmp .ne 41, 3) := by decide +kernel
theorem dX5_readClause_170 : decode cX5_readClause 170 = .ok (.iload_n 2, 1) := by decide +kernel
theorem dX5_readClause_171 : decode cX5_readClause 171 = .ok (.sipush 260, 3) := by decide +kernel
theorem dX5_readClause_174 : decode cX5_readClause 174 = .ok (.if_icmp .eq 10, 3) := by decide +kernel
theorem dX5_readClause_184 : decode cX5_readClause 184 = .ok (.aload_n 0, 1) := by decide +kernel
theorem dX5_readClause_185 : decode cX5_readClause 185 = .ok (.dup, 1) := by decide +kernel
theorem dX5_readClause_186 : decode cX5_readClause 186 = .ok (.getfield 60, 3) := by decide +kernel
theorem dX5_readClause_189 : decode cX5_readClause 189 = .ok (.iconst 1, 1) := by decide +kernel
theorem dX5_readClause_190 : decode cX5_readClause 190 = .ok (.iadd, 1) := by decide +kernel
theorem dX5_readClause_191 : decode cX5_readClause 191 = .ok (.putfield 60, 3) := by decide +kernel
theorem dX5_readClause_194 : decode cX5_readClause 194 = .ok (.aload_n 0, 1) := by decide +kernel
theorem dX5_readClause_195 : decode cX5_readClause 195 = .ok (.iconst 0, 1) := by decide +kernel
theorem dX5_readClause_196 : decode cX5_readClause 196 = .ok (.invokevirtual 131, 3) := by decide +kernel
theorem dX5_readSum_0 : decode cX5_readSum 0 = .ok (.iconst (-1), 1) := by decide +kernel
theorem dX5_readSum_1 : decode cX5_readSum 1 = .ok (.istore_n 2, 1) := by decide +kernel
theorem dX5_readSum_2 : decode cX5_readSum 2 = .ok (.aload_n 0, 1) := by decide +kernel
theorem dX5_readSum_3 : decode cX5_readSum 3 = .ok (.iload_n 1, 1) := by decide +kernel
theorem dX5_readSum_4 : decode cX5_readSum 4 = .ok (.invokevirtual 150, 3) := by decide +kernel
theorem dX5_readPart_0 : decode cX5_readPart 0 = .ok (.aload_n 0, 1) := by decide +kernel
theorem dX5_readPart_1 : decode cX5_readPart 1 = .ok (.getfield 37, 3) := by decide +kernel
theorem dX5_readPart_4 : decode cX5_readPart 4 = .ok (.aload_n 0, 1) := by decide +kernel
theorem dX5_readPart_5 : decode cX5_readPart 5 = .ok (.getfield 60, 3) := by decide +kernel
theorem dX5_readPart_8 : decode cX5_readPart 8 = .ok (.iaload, 1) := by decide +kernel
theorem dX5_readPart_9 : decode cX5_readPart 9 = .ok (.sipush 301, 3) := by decide +kernel
theorem dX5_readPart_12 : decode cX5_readPart 12 = .ok (.if_icmp .ne 21, 3) := by decide +kernel
theorem dX5_readPart_33 : decode cX5_readPart 33 = .ok (.iconst 0, 1) := by decide +kernel
theorem dX5_readPart_15 : decode cX5_readPart 15 = .ok (.aload_n 0, 1) := by decide +kernel
theorem dX5_readPart_16 : decode cX5_readPart 16 = .ok (.getfield 43, 3) := by decide +kernel
theorem dX5_readPart_19 : decode cX5_readPart 19 = .ok (.aload_n 0, 1) := by decide +kernel
theorem dX5_readPart_20 : decode cX5_readPart 20 = .ok (.getfield 60, 3) := by decide +kernel
theorem dX5_readPart_23 : decode cX5_readPart 23 = .ok (.iaload, 1) := by decide +kernel
theorem dX5_readPart_24 : decode cX5_readPart 24 = .ok (.ldc 156, 2) := by decide +kernel
theorem dX5_readPart_26 : decode cX5_readPart 26 = .ok (.if_icmp .gt 7, 3) := by decide +kernel
theorem dX5_readPart_29 : decode cX5_readPart 29 = .ok (.iconst 1, 1) := by decide +kernel
theorem dX5_readPart_30 : decode cX5_readPart 30 = .ok (.goto 4, 3) := by decide +kernel
theorem dX5_readPart_34 : decode cX5_readPart 34 = .ok (.istore_n 2, 1) := by decide +kernel
theorem dX5_readPart_35 : decode cX5_readPart 35 = .ok (.aload_n 0, 1) := by decide +kernel
theorem dX5_readPart_36 : decode cX5_readPart 36 = .ok (.getfield 37, 3) := by decide +kernel
theorem dX5_readPart_39 : decode cX5_readPart 39 = .ok (.aload_n 0, 1) := by decide +kernel
theorem dX5_readPart_40 : decode cX5_readPart 40 = .ok (.getfield 60, 3) := by decide +kernel
theorem dX5_readPart_43 : decode cX5_readPart 43 = .ok (.iaload, 1) := by decide +kernel
theorem dX5_readPart_44 : decode cX5_readPart 44 = .ok (.sipush 272, 3) := by decide +kernel
theorem dX5_readPart_47 : decode cX5_readPart 47 = .ok (.if_icmp .lt 22, 3) := by decide +kernel
theorem dX5_readPart_69 : decode cX5_readPart 69 = .ok (.iconst 0, 1) := by decide +kernel
theorem dX5_readPart_50 : decode cX5_readPart 50 = .ok (.aload_n 0, 1) := by decide +kernel
theorem dX5_readPart_51 : decode cX5_readPart 51 = .ok (.getfield 37, 3) := by decide +kernel
theorem dX5_readPart_54 : decode cX5_readPart 54 = .ok (.aload_n 0, 1) := by decide +kernel
theorem dX5_readPart_55 : decode cX5_readPart 55 = .ok (.getfield 60, 3) := by decide +kernel
theorem dX5_readPart_58 : decode cX5_readPart 58 = .ok (.iaload, 1) := by decide +kernel
theorem dX5_readPart_59 : decode cX5_readPart 59 = .ok (.sipush 282, 3) := by decide +kernel
theorem dX5_readPart_62 : decode cX5_readPart 62 = .ok (.if_icmp .gt 7, 3) := by decide +kernel
theorem dX5_readPart_65 : decode cX5_readPart 65 = .ok (.iconst 1, 1) := by decide +kernel
theorem dX5_readPart_66 : decode cX5_readPart 66 = .ok (.goto 4, 3) := by decide +kernel
theorem dX5_readPart_70 : decode cX5_readPart 70 = .ok (.istore_n 3, 1) := by decide +kernel
theorem dX5_readPart_71 : decode cX5_readPart 71 = .ok (.aload_n 0, 1) := by decide +kernel
theorem dX5_readPart_72 : decode cX5_readPart 72 = .ok (.getfield 37, 3) := by decide +kernel
theorem dX5_readPart_75 : decode cX5_readPart 75 = .ok (.aload_n 0, 1) := by decide +kernel
theorem dX5_readPart_76 : decode cX5_readPart 76 = .ok (.getfield 60, 3) := by decide +kernel
theorem dX5_readPart_79 : decode cX5_readPart 79 = .ok (.iaload, 1) := by decide +kernel
theorem dX5_readPart_80 : decode cX5_readPart 80 = .ok (.bipush 91, 2) := by decide +kernel
theorem dX5_readPart_82 : decode cX5_readPart 82 = .ok (.if_icmp .ne 35, 3) := by decide +kernel
theorem dX5_readPart_117 : decode cX5_readPart 117 = .ok (.iload_n 2, 1) := by decide +kernel
theorem dX5_readPart_118 : decode cX5_readPart 118 = .ok (.ifCond .ne 7, 3) := by decide +kernel
theorem dX5_readPart_125 : decode cX5_readPart 125 = .ok (.aload_n 0, 1) := by decide +kernel
theorem dX5_readPart_126 : decode cX5_readPart 126 = .ok (.getfield 63, 3) := by decide +kernel
theorem dX5_readPart_129 : decode cX5_readPart 129 = .ok (.bipush 50, 2) := by decide +kernel
theorem dX5_readPart_131 : decode cX5_readPart 131 = .ok (.if_icmp .ge 10, 3) := by decide +kernel
theorem dX5_readPart_141 : decode cX5_readPart 141 = .ok (.aload_n 0, 1) := by decide +kernel
theorem dX5_readPart_142 : decode cX5_readPart 142 = .ok (.invokevirtual 72, 3) := by decide +kernel
theorem dX5_fail_0 : decode cX5_fail 0 = .ok (.aload_n 0, 1) := by decide +kernel
theorem dX5_fail_1 : decode cX5_fail 1 = .ok (.getfield 9, 3) := by decide +kernel
theorem dX5_fail_4 : decode cX5_fail 4 = .ok (.iconst (-1), 1) := by decide +kernel
theorem dX5_fail_5 : decode cX5_fail 5 = .ok (.if_icmp .ne 16, 3) := by decide +kernel
theorem dX5_fail_8 : decode cX5_fail 8 = .ok (.aload_n 0, 1) := by decide +kernel
theorem dX5_fail_9 : decode cX5_fail 9 = .ok (.aload_n 0, 1) := by decide +kernel
theorem dX5_fail_10 : decode cX5_fail 10 = .ok (.getfield 40, 3) := by decide +kernel
theorem dX5_fail_13 : decode cX5_fail 13 = .ok (.aload_n 0, 1) := by decide +kernel
theorem dX5_fail_14 : decode cX5_fail 14 = .ok (.getfield 60, 3) := by decide +kernel
theorem dX5_fail_17 : decode cX5_fail 17 = .ok (.iaload, 1) := by decide +kernel
theorem dX5_fail_18 : decode cX5_fail 18 = .ok (.putfield 9, 3) := by decide +kernel
theorem dX5_fail_21 : decode cX5_fail 21 = .ok (.return_, 1) := by decide +kernel
theorem dX5_readPart_134 : decode cX5_readPart 134 = .ok (.aload_n 0, 1) := by decide +kernel
theorem dX5_readPart_135 : decode cX5_readPart 135 = .ok (.invokevirtual 147, 3) := by decide +kernel
theorem dX5_takeLeaf_0 : decode cX5_takeLeaf 0 = .ok (.aload_n 0, 1) := by decide +kernel
theorem dX5_takeLeaf_1 : decode cX5_takeLeaf 1 = .ok (.getfield 57, 3) := by decide +kernel
theorem dX5_takeLeaf_4 : decode cX5_takeLeaf 4 = .ok (.aload_n 0, 1) := by decide +kernel
theorem dX5_takeLeaf_5 : decode cX5_takeLeaf 5 = .ok (.getfield 31, 3) := by decide +kernel
theorem dX5_takeLeaf_8 : decode cX5_takeLeaf 8 = .ok (.arraylength, 1) := by decide +kernel
theorem dX5_takeLeaf_9 : decode cX5_takeLeaf 9 = .ok (.if_icmp .ge 49, 3) := by decide +kernel
theorem dX5_takeLeaf_12 : decode cX5_takeLeaf 12 = .ok (.aload_n 0, 1) := by decide +kernel
theorem dX5_takeLeaf_13 : decode cX5_takeLeaf 13 = .ok (.getfield 31, 3) := by decide +kernel
theorem dX5_takeLeaf_16 : decode cX5_takeLeaf 16 = .ok (.aload_n 0, 1) := by decide +kernel
theorem dX5_takeLeaf_17 : decode cX5_takeLeaf 17 = .ok (.getfield 57, 3) := by decide +kernel
theorem dX5_takeLeaf_20 : decode cX5_takeLeaf 20 = .ok (.aload_n 0, 1) := by decide +kernel
theorem dX5_takeLeaf_21 : decode cX5_takeLeaf 21 = .ok (.getfield 37, 3) := by decide +kernel
theorem dX5_takeLeaf_24 : decode cX5_takeLeaf 24 = .ok (.aload_n 0, 1) := by decide +kernel
theorem dX5_takeLeaf_25 : decode cX5_takeLeaf 25 = .ok (.getfield 60, 3) := by decide +kernel
theorem dX5_takeLeaf_28 : decode cX5_takeLeaf 28 = .ok (.iaload, 1) := by decide +kernel
theorem dX5_takeLeaf_29 : decode cX5_takeLeaf 29 = .ok (.iastore, 1) := by decide +kernel
theorem dX5_takeLeaf_30 : decode cX5_takeLeaf 30 = .ok (.aload_n 0, 1) := by decide +kernel
theorem dX5_takeLeaf_31 : decode cX5_takeLeaf 31 = .ok (.getfield 34, 3) := by decide +kernel
theorem dX5_takeLeaf_34 : decode cX5_takeLeaf 34 = .ok (.aload_n 0, 1) := by decide +kernel
theorem dX5_takeLeaf_35 : decode cX5_takeLeaf 35 = .ok (.getfield 57, 3) := by decide +kernel
theorem dX5_takeLeaf_38 : decode cX5_takeLeaf 38 = .ok (.aload_n 0, 1) := by decide +kernel
theorem dX5_takeLeaf_39 : decode cX5_takeLeaf 39 = .ok (.getfield 43, 3) := by decide +kernel
theorem dX5_takeLeaf_42 : decode cX5_takeLeaf 42 = .ok (.aload_n 0, 1) := by decide +kernel
theorem dX5_takeLeaf_43 : decode cX5_takeLeaf 43 = .ok (.getfield 60, 3) := by decide +kernel
theorem dX5_takeLeaf_46 : decode cX5_takeLeaf 46 = .ok (.iaload, 1) := by decide +kernel
theorem dX5_takeLeaf_47 : decode cX5_takeLeaf 47 = .ok (.iastore, 1) := by decide +kernel
theorem dX5_takeLeaf_48 : decode cX5_takeLeaf 48 = .ok (.aload_n 0, 1) := by decide +kernel
theorem dX5_takeLeaf_49 : decode cX5_takeLeaf 49 = .ok (.dup, 1) := by decide +kernel
theorem dX5_takeLeaf_50 : decode cX5_takeLeaf 50 = .ok (.getfield 57, 3) := by decide +kernel
theorem dX5_takeLeaf_53 : decode cX5_takeLeaf 53 = .ok (.iconst 1, 1) := by decide +kernel
theorem dX5_takeLeaf_54 : decode cX5_takeLeaf 54 = .ok (.iadd, 1) := by decide +kernel
theorem dX5_takeLeaf_55 : decode cX5_takeLeaf 55 = .ok (.putfield 57, 3) := by decide +kernel
theorem dX5_takeLeaf_58 : decode cX5_takeLeaf 58 = .ok (.aload_n 0, 1) := by decide +kernel
theorem dX5_takeLeaf_59 : decode cX5_takeLeaf 59 = .ok (.aload_n 0, 1) := by decide +kernel
theorem dX5_takeLeaf_60 : decode cX5_takeLeaf 60 = .ok (.getfield 53, 3) := by decide +kernel
theorem dX5_takeLeaf_63 : decode cX5_takeLeaf 63 = .ok (.ifCond .ne 18, 3) := by decide +kernel
theorem dX5_takeLeaf_81 : decode cX5_takeLeaf 81 = .ok (.iconst 1, 1) := by decide +kernel
theorem dX5_takeLeaf_82 : decode cX5_takeLeaf 82 = .ok (.goto 4, 3) := by decide +kernel
theorem dX5_takeLeaf_66 : decode cX5_takeLeaf 66 = .ok (.aload_n 0, 1) := by decide +kernel
theorem dX5_takeLeaf_67 : decode cX5_takeLeaf 67 = .ok (.getfield 37, 3) := by decide +kernel
theorem dX5_takeLeaf_70 : decode cX5_takeLeaf 70 = .ok (.aload_n 0, 1) := by decide +kernel
theorem dX5_takeLeaf_71 : decode cX5_takeLeaf 71 = .ok (.getfield 60, 3) := by decide +kernel
theorem dX5_takeLeaf_74 : decode cX5_takeLeaf 74 = .ok (.iaload, 1) := by decide +kernel
theorem dX5_takeLeaf_75 : decode cX5_takeLeaf 75 = .ok (.sipush 270, 3) := by decide +kernel
theorem dX5_takeLeaf_78 : decode cX5_takeLeaf 78 = .ok (.if_icmp .ne 7, 3) := by decide +kernel
theorem dX5_takeLeaf_85 : decode cX5_takeLeaf 85 = .ok (.iconst 0, 1) := by decide +kernel
theorem dX5_takeLeaf_86 : decode cX5_takeLeaf 86 = .ok (.putfield 53, 3) := by decide +kernel
theorem dX5_takeLeaf_89 : decode cX5_takeLeaf 89 = .ok (.aload_n 0, 1) := by decide +kernel
theorem dX5_takeLeaf_90 : decode cX5_takeLeaf 90 = .ok (.dup, 1) := by decide +kernel
theorem dX5_takeLeaf_91 : decode cX5_takeLeaf 91 = .ok (.getfield 63, 3) := by decide +kernel
theorem dX5_takeLeaf_94 : decode cX5_takeLeaf 94 = .ok (.iconst 1, 1) := by decide +kernel
theorem dX5_takeLeaf_95 : decode cX5_takeLeaf 95 = .ok (.iadd, 1) := by decide +kernel
theorem dX5_takeLeaf_96 : decode cX5_takeLeaf 96 = .ok (.putfield 63, 3) := by decide +kernel
theorem dX5_takeLeaf_99 : decode cX5_takeLeaf 99 = .ok (.aload_n 0, 1) := by decide +kernel
theorem dX5_takeLeaf_100 : decode cX5_takeLeaf 100 = .ok (.dup, 1) := by decide +kernel
theorem dX5_takeLeaf_101 : decode cX5_takeLeaf 101 = .ok (.getfield 60, 3) := by decide +kernel
theorem dX5_takeLeaf_104 : decode cX5_takeLeaf 104 = .ok (.iconst 1, 1) := by decide +kernel
theorem dX5_takeLeaf_105 : decode cX5_takeLeaf 105 = .ok (.iadd, 1) := by decide +kernel
theorem dX5_takeLeaf_106 : decode cX5_takeLeaf 106 = .ok (.putfield 60, 3) := by decide +kernel
theorem dX5_takeLeaf_109 : decode cX5_takeLeaf 109 = .ok (.return_, 1) := by decide +kernel
theorem dX5_readPart_138 : decode cX5_readPart 138 = .ok (.goto 7, 3) := by decide +kernel
theorem dX5_readPart_121 : decode cX5_readPart 121 = .ok (.iload_n 3, 1) := by decide +kernel
theorem dX5_readPart_122 : decode cX5_readPart 122 = .ok (.ifCond .eq 19, 3) := by decide +kernel
theorem dX5_readPart_85 : decode cX5_readPart 85 = .ok (.iload_n 1, 1) := by decide +kernel
theorem dX5_readPart_86 : decode cX5_readPart 86 = .ok (.bipush 8, 2) := by decide +kernel
theorem dX5_readPart_88 : decode cX5_readPart 88 = .ok (.if_icmp .ge 29, 3) := by decide +kernel
theorem dX5_readPart_91 : decode cX5_readPart 91 = .ok (.aload_n 0, 1) := by decide +kernel
theorem dX5_readPart_92 : decode cX5_readPart 92 = .ok (.dup, 1) := by decide +kernel
theorem dX5_readPart_93 : decode cX5_readPart 93 = .ok (.getfield 60, 3) := by decide +kernel
theorem dX5_readPart_96 : decode cX5_readPart 96 = .ok (.iconst 1, 1) := by decide +kernel
theorem dX5_readPart_97 : decode cX5_readPart 97 = .ok (.iadd, 1) := by decide +kernel
theorem dX5_readPart_98 : decode cX5_readPart 98 = .ok (.putfield 60, 3) := by decide +kernel
theorem dX5_readPart_101 : decode cX5_readPart 101 = .ok (.aload_n 0, 1) := by decide +kernel
theorem dX5_readPart_102 : decode cX5_readPart 102 = .ok (.iload_n 1, 1) := by decide +kernel
theorem dX5_readPart_103 : decode cX5_readPart 103 = .ok (.iconst 1, 1) := by decide +kernel
theorem dX5_readPart_104 : decode cX5_readPart 104 = .ok (.iadd, 1) := by decide +kernel
theorem dX5_readPart_105 : decode cX5_readPart 105 = .ok (.invokevirtual 131, 3) := by decide +kernel
theorem dX5_readPart_108 : decode cX5_readPart 108 = .ok (.aload_n 0, 1) := by decide +kernel
theorem dX5_readPart_109 : decode cX5_readPart 109 = .ok (.bipush 93, 2) := by decide +kernel
theorem dX5_readPart_111 : decode cX5_readPart 111 = .ok (.invokevirtual 127, 3) := by decide +kernel
theorem dX5_expect_0 : decode cX5_expect 0 = .ok (.aload_n 0, 1) := by decide +kernel
theorem dX5_expect_1 : decode cX5_expect 1 = .ok (.getfield 9, 3) := by decide +kernel
theorem dX5_expect_4 : decode cX5_expect 4 = .ok (.iconst (-1), 1) := by decide +kernel
theorem dX5_expect_5 : decode cX5_expect 5 = .ok (.if_icmp .eq 4, 3) := by decide +kernel
theorem dX5_expect_9 : decode cX5_expect 9 = .ok (.aload_n 0, 1) := by decide +kernel
theorem dX5_expect_10 : decode cX5_expect 10 = .ok (.getfield 37, 3) := by decide +kernel
theorem dX5_expect_13 : decode cX5_expect 13 = .ok (.aload_n 0, 1) := by decide +kernel
theorem dX5_expect_14 : decode cX5_expect 14 = .ok (.getfield 60, 3) := by decide +kernel
theorem dX5_expect_17 : decode cX5_expect 17 = .ok (.iaload, 1) := by decide +kernel
theorem dX5_expect_18 : decode cX5_expect 18 = .ok (.iload_n 1, 1) := by decide +kernel
theorem dX5_expect_19 : decode cX5_expect 19 = .ok (.if_icmp .ne 16, 3) := by decide +kernel
theorem dX5_expect_35 : decode cX5_expect 35 = .ok (.aload_n 0, 1) := by decide +kernel
theorem dX5_expect_36 : decode cX5_expect 36 = .ok (.aload_n 0, 1) := by decide +kernel
theorem dX5_expect_37 : decode cX5_expect 37 = .ok (.getfield 40, 3) := by decide +kernel
theorem dX5_expect_40 : decode cX5_expect 40 = .ok (.aload_n 0, 1) := by decide +kernel
theorem dX5_expect_41 : decode cX5_expect 41 = .ok (.getfield 60, 3) := by decide +kernel
theorem dX5_expect_44 : decode cX5_expect 44 = .ok (.iaload, 1) := by decide +kernel
theorem dX5_expect_45 : decode cX5_expect 45 = .ok (.putfield 9, 3) := by decide +kernel
theorem dX5_expect_22 : decode cX5_expect 22 = .ok (.aload_n 0, 1) := by decide +kernel
theorem dX5_expect_23 : decode cX5_expect 23 = .ok (.dup, 1) := by decide +kernel
theorem dX5_expect_24 : decode cX5_expect 24 = .ok (.getfield 60, 3) := by decide +kernel
theorem dX5_expect_27 : decode cX5_expect 27 = .ok (.iconst 1, 1) := by decide +kernel
theorem dX5_expect_28 : decode cX5_expect 28 = .ok (.iadd, 1) := by decide +kernel
theorem dX5_expect_29 : decode cX5_expect 29 = .ok (.putfield 60, 3) := by decide +kernel
theorem dX5_expect_32 : decode cX5_expect 32 = .ok (.goto 16, 3) := by decide +kernel
theorem dX5_expect_48 : decode cX5_expect 48 = .ok (.return_, 1) := by decide +kernel
theorem dX5_expect_8 : decode cX5_expect 8 = .ok (.return_, 1) := by decide +kernel
theorem dX5_readPart_114 : decode cX5_readPart 114 = .ok (.goto 31, 3) := by decide +kernel
theorem dX5_readPart_145 : decode cX5_readPart 145 = .ok (.return_, 1) := by decide +kernel
theorem dX5_readSum_7 : decode cX5_readSum 7 = .ok (.iconst 0, 1) := by decide +kernel
theorem dX5_readSum_8 : decode cX5_readSum 8 = .ok (.istore_n 3, 1) := by decide +kernel
theorem dX5_readSum_9 : decode cX5_readSum 9 = .ok (.iload_n 3, 1) := by decide +kernel
theorem dX5_readSum_10 : decode cX5_readSum 10 = .ok (.aload_n 0, 1) := by decide +kernel
theorem dX5_readSum_11 : decode cX5_readSum 11 = .ok (.getfield 69, 3) := by decide +kernel
theorem dX5_readSum_14 : decode cX5_readSum 14 = .ok (.if_icmp .ge 101, 3) := by decide +kernel
theorem dX5_readSum_17 : decode cX5_readSum 17 = .ok (.aload_n 0, 1) := by decide +kernel
theorem dX5_readSum_18 : decode cX5_readSum 18 = .ok (.getfield 9, 3) := by decide +kernel
theorem dX5_readSum_21 : decode cX5_readSum 21 = .ok (.iconst (-1), 1) := by decide +kernel
theorem dX5_readSum_22 : decode cX5_readSum 22 = .ok (.if_icmp .ne 93, 3) := by decide +kernel
theorem dX5_readSum_25 : decode cX5_readSum 25 = .ok (.aload_n 0, 1) := by decide +kernel
theorem dX5_readSum_26 : decode cX5_readSum 26 = .ok (.getfield 37, 3) := by decide +kernel
theorem dX5_readSum_29 : decode cX5_readSum 29 = .ok (.aload_n 0, 1) := by decide +kernel
theorem dX5_readSum_30 : decode cX5_readSum 30 = .ok (.getfield 60, 3) := by decide +kernel
theorem dX5_readSum_33 : decode cX5_readSum 33 = .ok (.iaload, 1) := by decide +kernel
theorem dX5_readSum_34 : decode cX5_readSum 34 = .ok (.invokestatic 153, 3) := by decide +kernel
theorem dX5_isSign_0 : decode cX5_isSign 0 = .ok (.iload_n 0, 1) := by decide +kernel
theorem dX5_isSign_1 : decode cX5_isSign 1 = .ok (.bipush 43, 2) := by decide +kernel
theorem dX5_isSign_3 : decode cX5_isSign 3 = .ok (.if_icmp .eq 21, 3) := by decide +kernel
theorem dX5_isSign_24 : decode cX5_isSign 24 = .ok (.iconst 1, 1) := by decide +kernel
theorem dX5_isSign_25 : decode cX5_isSign 25 = .ok (.goto 4, 3) := by decide +kernel
theorem dX5_isSign_6 : decode cX5_isSign 6 = .ok (.iload_n 0, 1) := by decide +kernel
theorem dX5_isSign_7 : decode cX5_isSign 7 = .ok (.bipush 45, 2) := by decide +kernel
theorem dX5_isSign_9 : decode cX5_isSign 9 = .ok (.if_icmp .eq 15, 3) := by decide +kernel
theorem dX5_isSign_12 : decode cX5_isSign 12 = .ok (.iload_n 0, 1) := by decide +kernel
theorem dX5_isSign_13 : decode cX5_isSign 13 = .ok (.bipush 42, 2) := by decide +kernel
theorem dX5_isSign_15 : decode cX5_isSign 15 = .ok (.if_icmp .eq 9, 3) := by decide +kernel
theorem dX5_isSign_18 : decode cX5_isSign 18 = .ok (.iload_n 0, 1) := by decide +kernel
theorem dX5_isSign_19 : decode cX5_isSign 19 = .ok (.bipush 47, 2) := by decide +kernel
theorem dX5_isSign_21 : decode cX5_isSign 21 = .ok (.if_icmp .ne 7, 3) := by decide +kernel
theorem dX5_isSign_28 : decode cX5_isSign 28 = .ok (.iconst 0, 1) := by decide +kernel
theorem dX5_isSign_29 : decode cX5_isSign 29 = .ok (.ireturn, 1) := by decide +kernel
theorem dX5_readSum_37 : decode cX5_readSum 37 = .ok (.ifCond .eq 78, 3) := by decide +kernel
theorem dX5_readSum_40 : decode cX5_readSum 40 = .ok (.aload_n 0, 1) := by decide +kernel
theorem dX5_readSum_41 : decode cX5_readSum 41 = .ok (.getfield 37, 3) := by decide +kernel
theorem dX5_readSum_44 : decode cX5_readSum 44 = .ok (.aload_n 0, 1) := by decide +kernel
theorem dX5_readSum_45 : decode cX5_readSum 45 = .ok (.getfield 60, 3) := by decide +kernel
theorem dX5_readSum_48 : decode cX5_readSum 48 = .ok (.iaload, 1) := by decide +kernel
theorem dX5_readSum_49 : decode cX5_readSum 49 = .ok (.istore 4, 2) := by decide +kernel
theorem dX5_readSum_51 : decode cX5_readSum 51 = .ok (.aload_n 0, 1) := by decide +kernel
theorem dX5_readSum_52 : decode cX5_readSum 52 = .ok (.dup, 1) := by decide +kernel
theorem dX5_readSum_53 : decode cX5_readSum 53 = .ok (.getfield 60, 3) := by decide +kernel
theorem dX5_readSum_56 : decode cX5_readSum 56 = .ok (.iconst 1, 1) := by decide +kernel
theorem dX5_readSum_57 : decode cX5_readSum 57 = .ok (.iadd, 1) := by decide +kernel
theorem dX5_readSum_58 : decode cX5_readSum 58 = .ok (.putfield 60, 3) := by decide +kernel
theorem dX5_readSum_61 : decode cX5_readSum 61 = .ok (.iload 4, 2) := by decide +kernel
theorem dX5_readSum_63 : decode cX5_readSum 63 = .ok (.bipush 42, 2) := by decide +kernel
theorem dX5_readSum_65 : decode cX5_readSum 65 = .ok (.if_icmp .eq 10, 3) := by decide +kernel
theorem dX5_readSum_75 : decode cX5_readSum 75 = .ok (.aload_n 0, 1) := by decide +kernel
theorem dX5_readSum_76 : decode cX5_readSum 76 = .ok (.iload_n 1, 1) := by decide +kernel
theorem dX5_readSum_77 : decode cX5_readSum 77 = .ok (.invokevirtual 150, 3) := by decide +kernel
theorem dX5_readSum_80 : decode cX5_readSum 80 = .ok (.aload_n 0, 1) := by decide +kernel
theorem dX5_readSum_81 : decode cX5_readSum 81 = .ok (.iload 4, 2) := by decide +kernel
theorem dX5_readSum_83 : decode cX5_readSum 83 = .ok (.iconst 0, 1) := by decide +kernel
theorem dX5_readSum_84 : decode cX5_readSum 84 = .ok (.invokevirtual 134, 3) := by decide +kernel
theorem dX5_write_0 : decode cX5_write 0 = .ok (.aload_n 0, 1) := by decide +kernel
theorem dX5_write_1 : decode cX5_write 1 = .ok (.getfield 57, 3) := by decide +kernel
theorem dX5_write_4 : decode cX5_write 4 = .ok (.aload_n 0, 1) := by decide +kernel
theorem dX5_write_5 : decode cX5_write 5 = .ok (.getfield 31, 3) := by decide +kernel
theorem dX5_write_8 : decode cX5_write 8 = .ok (.arraylength, 1) := by decide +kernel
theorem dX5_write_9 : decode cX5_write 9 = .ok (.if_icmp .ge 33, 3) := by decide +kernel
theorem dX5_write_12 : decode cX5_write 12 = .ok (.aload_n 0, 1) := by decide +kernel
theorem dX5_write_13 : decode cX5_write 13 = .ok (.getfield 31, 3) := by decide +kernel
theorem dX5_write_16 : decode cX5_write 16 = .ok (.aload_n 0, 1) := by decide +kernel
theorem dX5_write_17 : decode cX5_write 17 = .ok (.getfield 57, 3) := by decide +kernel
theorem dX5_write_20 : decode cX5_write 20 = .ok (.iload_n 1, 1) := by decide +kernel
theorem dX5_write_21 : decode cX5_write 21 = .ok (.iastore, 1) := by decide +kernel
theorem dX5_write_22 : decode cX5_write 22 = .ok (.aload_n 0, 1) := by decide +kernel
theorem dX5_write_23 : decode cX5_write 23 = .ok (.getfield 34, 3) := by decide +kernel
theorem dX5_write_26 : decode cX5_write 26 = .ok (.aload_n 0, 1) := by decide +kernel
theorem dX5_write_27 : decode cX5_write 27 = .ok (.getfield 57, 3) := by decide +kernel
theorem dX5_write_30 : decode cX5_write 30 = .ok (.iload_n 2, 1) := by decide +kernel
theorem dX5_write_31 : decode cX5_write 31 = .ok (.iastore, 1) := by decide +kernel
theorem dX5_write_32 : decode cX5_write 32 = .ok (.aload_n 0, 1) := by decide +kernel
theorem dX5_write_33 : decode cX5_write 33 = .ok (.dup, 1) := by decide +kernel
theorem dX5_write_34 : decode cX5_write 34 = .ok (.getfield 57, 3) := by decide +kernel
theorem dX5_write_37 : decode cX5_write 37 = .ok (.iconst 1, 1) := by decide +kernel
theorem dX5_write_38 : decode cX5_write 38 = .ok (.iadd, 1) := by decide +kernel
theorem dX5_write_39 : decode cX5_write 39 = .ok (.putfield 57, 3) := by decide +kernel
theorem dX5_write_42 : decode cX5_write 42 = .ok (.return_, 1) := by decide +kernel
theorem dX5_readSum_87 : decode cX5_readSum 87 = .ok (.goto 22, 3) := by decide +kernel
theorem dX5_readSum_68 : decode cX5_readSum 68 = .ok (.iload 4, 2) := by decide +kernel
theorem dX5_readSum_70 : decode cX5_readSum 70 = .ok (.bipush 47, 2) := by decide +kernel
theorem dX5_readSum_72 : decode cX5_readSum 72 = .ok (.if_icmp .ne 18, 3) := by decide +kernel
theorem dX5_readSum_90 : decode cX5_readSum 90 = .ok (.iload_n 2, 1) := by decide +kernel
theorem dX5_readSum_91 : decode cX5_readSum 91 = .ok (.iconst (-1), 1) := by decide +kernel
theorem dX5_readSum_92 : decode cX5_readSum 92 = .ok (.if_icmp .eq 9, 3) := by decide +kernel
theorem dX5_readSum_101 : decode cX5_readSum 101 = .ok (.iload 4, 2) := by decide +kernel
theorem dX5_readSum_103 : decode cX5_readSum 103 = .ok (.istore_n 2, 1) := by decide +kernel
theorem dX5_readSum_104 : decode cX5_readSum 104 = .ok (.aload_n 0, 1) := by decide +kernel
theorem dX5_readSum_105 : decode cX5_readSum 105 = .ok (.iload_n 1, 1) := by decide +kernel
theorem dX5_readSum_106 : decode cX5_readSum 106 = .ok (.invokevirtual 150, 3) := by decide +kernel
theorem dX5_readSum_109 : decode cX5_readSum 109 = .ok (.iinc 3 1, 3) := by decide +kernel
theorem dX5_readSum_112 : decode cX5_readSum 112 = .ok (.goto (-103), 3) := by decide +kernel
theorem dX5_readSum_95 : decode cX5_readSum 95 = .ok (.aload_n 0, 1) := by decide +kernel
theorem dX5_readSum_96 : decode cX5_readSum 96 = .ok (.iload_n 2, 1) := by decide +kernel
theorem dX5_readSum_97 : decode cX5_readSum 97 = .ok (.iconst 0, 1) := by decide +kernel
theorem dX5_readSum_98 : decode cX5_readSum 98 = .ok (.invokevirtual 134, 3) := by decide +kernel
theorem dX5_readSum_115 : decode cX5_readSum 115 = .ok (.iload_n 2, 1) := by decide +kernel
theorem dX5_readSum_116 : decode cX5_readSum 116 = .ok (.iconst (-1), 1) := by decide +kernel
theorem dX5_readSum_117 : decode cX5_readSum 117 = .ok (.if_icmp .eq 9, 3) := by decide +kernel
theorem dX5_readSum_120 : decode cX5_readSum 120 = .ok (.aload_n 0, 1) := by decide +kernel
theorem dX5_readSum_121 : decode cX5_readSum 121 = .ok (.iload_n 2, 1) := by decide +kernel
theorem dX5_readSum_122 : decode cX5_readSum 122 = .ok (.iconst 0, 1) := by decide +kernel
theorem dX5_readSum_123 : decode cX5_readSum 123 = .ok (.invokevirtual 134, 3) := by decide +kernel
theorem dX5_readSum_126 : decode cX5_readSum 126 = .ok (.return_, 1) := by decide +kernel
theorem dX5_readClause_199 : decode cX5_readClause 199 = .ok (.iconst 1, 1) := by decide +kernel
theorem dX5_readClause_200 : decode cX5_readClause 200 = .ok (.istore_n 3, 1) := by decide +kernel
theorem dX5_readClause_201 : decode cX5_readClause 201 = .ok (.goto 51, 3) := by decide +kernel
theorem dX5_readClause_177 : decode cX5_readClause 177 = .ok (.iload_n 2, 1) := by decide +kernel
theorem dX5_readClause_178 : decode cX5_readClause 178 = .ok (.sipush 261, 3) := by decide +kernel
theorem dX5_readClause_181 : decode cX5_readClause 181 = .ok (.if_icmp .ne 23, 3) := by decide +kernel
theorem dX5_readClause_204 : decode cX5_readClause 204 = .ok (.iload_n 2, 1) := by decide +kernel
theorem dX5_readClause_205 : decode cX5_readClause 205 = .ok (.sipush 262, 3) := by decide +kernel
theorem dX5_readClause_208 : decode cX5_readClause 208 = .ok (.if_icmp .eq 17, 3) := by decide +kernel
theorem dX5_readClause_225 : decode cX5_readClause 225 = .ok (.aload_n 0, 1) := by decide +kernel
theorem dX5_readClause_226 : decode cX5_readClause 226 = .ok (.dup, 1) := by decide +kernel
theorem dX5_readClause_227 : decode cX5_readClause 227 = .ok (.getfield 60, 3) := by decide +kernel
theorem dX5_readClause_230 : decode cX5_readClause 230 = .ok (.iconst 1, 1) := by decide +kernel
theorem dX5_readClause_231 : decode cX5_readClause 231 = .ok (.iadd, 1) := by decide +kernel
theorem dX5_readClause_232 : decode cX5_readClause 232 = .ok (.putfield 60, 3) := by decide +kernel
theorem dX5_readClause_235 : decode cX5_readClause 235 = .ok (.aload_n 0, 1) := by decide +kernel
theorem dX5_readClause_236 : decode cX5_readClause 236 = .ok (.sipush 301, 3) := by decide +kernel
theorem dX5_readClause_239 : decode cX5_readClause 239 = .ok (.iconst 0, 1) := by decide +kernel
theorem dX5_readClause_240 : decode cX5_readClause 240 = .ok (.invokevirtual 134, 3) := by decide +kernel
theorem dX5_readClause_243 : decode cX5_readClause 243 = .ok (.iconst 1, 1) := by decide +kernel
theorem dX5_readClause_244 : decode cX5_readClause 244 = .ok (.istore_n 3, 1) := by decide +kernel
theorem dX5_readClause_245 : decode cX5_readClause 245 = .ok (.goto 7, 3) := by decide +kernel
theorem dX5_readClause_211 : decode cX5_readClause 211 = .ok (.iload_n 2, 1) := by decide +kernel
theorem dX5_readClause_212 : decode cX5_readClause 212 = .ok (.sipush 263, 3) := by decide +kernel
theorem dX5_readClause_215 : decode cX5_readClause 215 = .ok (.if_icmp .eq 10, 3) := by decide +kernel
theorem dX5_readClause_218 : decode cX5_readClause 218 = .ok (.iload_n 2, 1) := by decide +kernel
theorem dX5_readClause_219 : decode cX5_readClause 219 = .ok (.sipush 264, 3) := by decide +kernel
theorem dX5_readClause_222 : decode cX5_readClause 222 = .ok (.if_icmp .ne 26, 3) := by decide +kernel
theorem dX5_readClause_248 : decode cX5_readClause 248 = .ok (.aload_n 0, 1) := by decide +kernel
theorem dX5_readClause_249 : decode cX5_readClause 249 = .ok (.invokevirtual 72, 3) := by decide +kernel
theorem dX5_readClause_132 : decode cX5_readClause 132 = .ok (.aload_n 0, 1) := by decide +kernel
theorem dX5_readClause_133 : decode cX5_readClause 133 = .ok (.dup, 1) := by decide +kernel
theorem dX5_readClause_134 : decode cX5_readClause 134 = .ok (.getfield 60, 3) := by decide +kernel
theorem dX5_readClause_137 : decode cX5_readClause 137 = .ok (.iconst 1, 1) := by decide +kernel
theorem dX5_readClause_138 : decode cX5_readClause 138 = .ok (.iadd, 1) := by decide +kernel
theorem dX5_readClause_139 : decode cX5_readClause 139 = .ok (.putfield 60, 3) := by decide +kernel
theorem dX5_readClause_142 : decode cX5_readClause 142 = .ok (.aload_n 0, 1) := by decide +kernel
theorem dX5_readClause_143 : decode cX5_readClause 143 = .ok (.getfield 19, 3) := by decide +kernel
theorem dX5_readClause_146 : decode cX5_readClause 146 = .ok (.iload_n 1, 1) := by decide +kernel
theorem dX5_readClause_147 : decode cX5_readClause 147 = .ok (.aload_n 0, 1) := by decide +kernel
theorem dX5_readClause_148 : decode cX5_readClause 148 = .ok (.iconst 0, 1) := by decide +kernel
theorem dX5_readClause_149 : decode cX5_readClause 149 = .ok (.iconst 3, 1) := by decide +kernel
theorem dX5_readClause_150 : decode cX5_readClause 150 = .ok (.invokevirtual 124, 3) := by decide +kernel
theorem dX5_readNumber_0 : decode cX5_readNumber 0 = .ok (.aload_n 0, 1) := by decide +kernel
theorem dX5_readNumber_1 : decode cX5_readNumber 1 = .ok (.getfield 9, 3) := by decide +kernel
theorem dX5_readNumber_4 : decode cX5_readNumber 4 = .ok (.iconst (-1), 1) := by decide +kernel
theorem dX5_readNumber_5 : decode cX5_readNumber 5 = .ok (.if_icmp .ne 44, 3) := by decide +kernel
theorem dX5_readNumber_49 : decode cX5_readNumber 49 = .ok (.aload_n 0, 1) := by decide +kernel
theorem dX5_readNumber_50 : decode cX5_readNumber 50 = .ok (.invokevirtual 72, 3) := by decide +kernel
theorem dX5_readNumber_53 : decode cX5_readNumber 53 = .ok (.iconst 0, 1) := by decide +kernel
theorem dX5_readNumber_54 : decode cX5_readNumber 54 = .ok (.ireturn, 1) := by decide +kernel
theorem dX5_readNumber_8 : decode cX5_readNumber 8 = .ok (.aload_n 0, 1) := by decide +kernel
theorem dX5_readNumber_9 : decode cX5_readNumber 9 = .ok (.getfield 37, 3) := by decide +kernel
theorem dX5_readNumber_12 : decode cX5_readNumber 12 = .ok (.aload_n 0, 1) := by decide +kernel
theorem dX5_readNumber_13 : decode cX5_readNumber 13 = .ok (.getfield 60, 3) := by decide +kernel
theorem dX5_readNumber_16 : decode cX5_readNumber 16 = .ok (.iaload, 1) := by decide +kernel
theorem dX5_readNumber_17 : decode cX5_readNumber 17 = .ok (.sipush 301, 3) := by decide +kernel
theorem dX5_readNumber_20 : decode cX5_readNumber 20 = .ok (.if_icmp .ne 29, 3) := by decide +kernel
theorem dX5_readNumber_23 : decode cX5_readNumber 23 = .ok (.aload_n 0, 1) := by decide +kernel
theorem dX5_readNumber_24 : decode cX5_readNumber 24 = .ok (.getfield 43, 3) := by decide +kernel
theorem dX5_readNumber_27 : decode cX5_readNumber 27 = .ok (.aload_n 0, 1) := by decide +kernel
theorem dX5_readNumber_28 : decode cX5_readNumber 28 = .ok (.getfield 60, 3) := by decide +kernel
theorem dX5_readNumber_31 : decode cX5_readNumber 31 = .ok (.iaload, 1) := by decide +kernel
theorem dX5_readNumber_32 : decode cX5_readNumber 32 = .ok (.iload_n 1, 1) := by decide +kernel
theorem dX5_readNumber_33 : decode cX5_readNumber 33 = .ok (.if_icmp .lt 16, 3) := by decide +kernel
theorem dX5_readNumber_36 : decode cX5_readNumber 36 = .ok (.aload_n 0, 1) := by decide +kernel
theorem dX5_readNumber_37 : decode cX5_readNumber 37 = .ok (.getfield 43, 3) := by decide +kernel
theorem dX5_readNumber_40 : decode cX5_readNumber 40 = .ok (.aload_n 0, 1) := by decide +kernel
theorem dX5_readNumber_41 : decode cX5_readNumber 41 = .ok (.getfield 60, 3) := by decide +kernel
theorem dX5_readNumber_44 : decode cX5_readNumber 44 = .ok (.iaload, 1) := by decide +kernel
theorem dX5_readNumber_45 : decode cX5_readNumber 45 = .ok (.iload_n 2, 1) := by decide +kernel
theorem dX5_readNumber_46 : decode cX5_readNumber 46 = .ok (.if_icmp .le 9, 3) := by decide +kernel
theorem dX5_readNumber_55 : decode cX5_readNumber 55 = .ok (.aload_n 0, 1) := by decide +kernel
theorem dX5_readNumber_56 : decode cX5_readNumber 56 = .ok (.dup, 1) := by decide +kernel
theorem dX5_readNumber_57 : decode cX5_readNumber 57 = .ok (.getfield 60, 3) := by decide +kernel
theorem dX5_readNumber_60 : decode cX5_readNumber 60 = .ok (.iconst 1, 1) := by decide +kernel
theorem dX5_readNumber_61 : decode cX5_readNumber 61 = .ok (.iadd, 1) := by decide +kernel
theorem dX5_readNumber_62 : decode cX5_readNumber 62 = .ok (.putfield 60, 3) := by decide +kernel
theorem dX5_readNumber_65 : decode cX5_readNumber 65 = .ok (.aload_n 0, 1) := by decide +kernel
theorem dX5_readNumber_66 : decode cX5_readNumber 66 = .ok (.getfield 43, 3) := by decide +kernel
theorem dX5_readNumber_69 : decode cX5_readNumber 69 = .ok (.aload_n 0, 1) := by decide +kernel
theorem dX5_readNumber_70 : decode cX5_readNumber 70 = .ok (.getfield 60, 3) := by decide +kernel
theorem dX5_readNumber_73 : decode cX5_readNumber 73 = .ok (.iconst 1, 1) := by decide +kernel
theorem dX5_readNumber_74 : decode cX5_readNumber 74 = .ok (.isub, 1) := by decide +kernel
theorem dX5_readNumber_75 : decode cX5_readNumber 75 = .ok (.iaload, 1) := by decide +kernel
theorem dX5_readNumber_76 : decode cX5_readNumber 76 = .ok (.ireturn, 1) := by decide +kernel
theorem dX5_readClause_153 : decode cX5_readClause 153 = .ok (.iastore, 1) := by decide +kernel
theorem dX5_readClause_154 : decode cX5_readClause 154 = .ok (.aload_n 0, 1) := by decide +kernel
theorem dX5_readClause_155 : decode cX5_readClause 155 = .ok (.getfield 22, 3) := by decide +kernel
theorem dX5_readClause_158 : decode cX5_readClause 158 = .ok (.iload_n 1, 1) := by decide +kernel
theorem dX5_readClause_159 : decode cX5_readClause 159 = .ok (.aload_n 0, 1) := by decide +kernel
theorem dX5_readClause_160 : decode cX5_readClause 160 = .ok (.iconst 1, 1) := by decide +kernel
theorem dX5_readClause_161 : decode cX5_readClause 161 = .ok (.bipush 52, 2) := by decide +kernel
theorem dX5_readClause_163 : decode cX5_readClause 163 = .ok (.invokevirtual 124, 3) := by decide +kernel
theorem dX5_readClause_166 : decode cX5_readClause 166 = .ok (.iastore, 1) := by decide +kernel
theorem dX5_readClause_167 : decode cX5_readClause 167 = .ok (.goto 85, 3) := by decide +kernel
theorem dX5_readClause_79 : decode cX5_readClause 79 = .ok (.aload_n 0, 1) := by decide +kernel
theorem dX5_readClause_80 : decode cX5_readClause 80 = .ok (.dup, 1) := by decide +kernel
theorem dX5_readClause_81 : decode cX5_readClause 81 = .ok (.getfield 60, 3) := by decide +kernel
theorem dX5_readClause_84 : decode cX5_readClause 84 = .ok (.iconst 1, 1) := by decide +kernel
theorem dX5_readClause_85 : decode cX5_readClause 85 = .ok (.iadd, 1) := by decide +kernel
theorem dX5_readClause_86 : decode cX5_readClause 86 = .ok (.putfield 60, 3) := by decide +kernel
theorem dX5_readClause_89 : decode cX5_readClause 89 = .ok (.aload_n 0, 1) := by decide +kernel
theorem dX5_readClause_90 : decode cX5_readClause 90 = .ok (.getfield 19, 3) := by decide +kernel
theorem dX5_readClause_93 : decode cX5_readClause 93 = .ok (.iload_n 1, 1) := by decide +kernel
theorem dX5_readClause_94 : decode cX5_readClause 94 = .ok (.aload_n 0, 1) := by decide +kernel
theorem dX5_readClause_95 : decode cX5_readClause 95 = .ok (.iconst 0, 1) := by decide +kernel
theorem dX5_readClause_96 : decode cX5_readClause 96 = .ok (.bipush 19, 2) := by decide +kernel
theorem dX5_readClause_98 : decode cX5_readClause 98 = .ok (.invokevirtual 124, 3) := by decide +kernel
theorem dX5_readClause_101 : decode cX5_readClause 101 = .ok (.iastore, 1) := by decide +kernel
theorem dX5_readClause_102 : decode cX5_readClause 102 = .ok (.aload_n 0, 1) := by decide +kernel
theorem dX5_readClause_103 : decode cX5_readClause 103 = .ok (.sipush 257, 3) := by decide +kernel
theorem dX5_readClause_106 : decode cX5_readClause 106 = .ok (.invokevirtual 127, 3) := by decide +kernel
theorem dX5_readClause_109 : decode cX5_readClause 109 = .ok (.aload_n 0, 1) := by decide +kernel
theorem dX5_readClause_110 : decode cX5_readClause 110 = .ok (.getfield 22, 3) := by decide +kernel
theorem dX5_readClause_113 : decode cX5_readClause 113 = .ok (.iload_n 1, 1) := by decide +kernel
theorem dX5_readClause_114 : decode cX5_readClause 114 = .ok (.aload_n 0, 1) := by decide +kernel
theorem dX5_readClause_115 : decode cX5_readClause 115 = .ok (.iconst 0, 1) := by decide +kernel
theorem dX5_readClause_116 : decode cX5_readClause 116 = .ok (.bipush 11, 2) := by decide +kernel
theorem dX5_readClause_118 : decode cX5_readClause 118 = .ok (.invokevirtual 124, 3) := by decide +kernel
theorem dX5_readClause_121 : decode cX5_readClause 121 = .ok (.iastore, 1) := by decide +kernel
theorem dX5_readClause_122 : decode cX5_readClause 122 = .ok (.goto 130, 3) := by decide +kernel
theorem dX5_readClause_252 : decode cX5_readClause 252 = .ok (.iload_n 3, 1) := by decide +kernel
theorem dX5_readClause_253 : decode cX5_readClause 253 = .ok (.ifCond .eq 49, 3) := by decide +kernel
theorem dX5_readClause_256 : decode cX5_readClause 256 = .ok (.aload_n 0, 1) := by decide +kernel
theorem dX5_readClause_257 : decode cX5_readClause 257 = .ok (.getfield 9, 3) := by decide +kernel
theorem dX5_readClause_260 : decode cX5_readClause 260 = .ok (.iconst (-1), 1) := by decide +kernel
theorem dX5_readClause_261 : decode cX5_readClause 261 = .ok (.if_icmp .ne 41, 3) := by decide +kernel
theorem dX5_readClause_264 : decode cX5_readClause 264 = .ok (.aload_n 0, 1) := by decide +kernel
theorem dX5_readClause_265 : decode cX5_readClause 265 = .ok (.getfield 37, 3) := by decide +kernel
theorem dX5_readClause_268 : decode cX5_readClause 268 = .ok (.aload_n 0, 1) := by decide +kernel
theorem dX5_readClause_269 : decode cX5_readClause 269 = .ok (.getfield 60, 3) := by decide +kernel
theorem dX5_readClause_272 : decode cX5_readClause 272 = .ok (.iaload, 1) := by decide +kernel
theorem dX5_readClause_273 : decode cX5_readClause 273 = .ok (.sipush 259, 3) := by decide +kernel
theorem dX5_readClause_276 : decode cX5_readClause 276 = .ok (.if_icmp .ne 26, 3) := by decide +kernel
theorem dX5_readClause_279 : decode cX5_readClause 279 = .ok (.aload_n 0, 1) := by decide +kernel
theorem dX5_readClause_280 : decode cX5_readClause 280 = .ok (.dup, 1) := by decide +kernel
theorem dX5_readClause_281 : decode cX5_readClause 281 = .ok (.getfield 60, 3) := by decide +kernel
theorem dX5_readClause_284 : decode cX5_readClause 284 = .ok (.iconst 1, 1) := by decide +kernel
theorem dX5_readClause_285 : decode cX5_readClause 285 = .ok (.iadd, 1) := by decide +kernel
theorem dX5_readClause_286 : decode cX5_readClause 286 = .ok (.putfield 60, 3) := by decide +kernel
theorem dX5_readClause_289 : decode cX5_readClause 289 = .ok (.aload_n 0, 1) := by decide +kernel
theorem dX5_readClause_290 : decode cX5_readClause 290 = .ok (.iconst 0, 1) := by decide +kernel
theorem dX5_readClause_291 : decode cX5_readClause 291 = .ok (.invokevirtual 138, 3) := by decide +kernel
theorem dX5_readTest_0 : decode cX5_readTest 0 = .ok (.iconst (-1), 1) := by decide +kernel
theorem dX5_readTest_1 : decode cX5_readTest 1 = .ok (.istore_n 2, 1) := by decide +kernel
theorem dX5_readTest_2 : decode cX5_readTest 2 = .ok (.iconst (-1), 1) := by decide +kernel
theorem dX5_readTest_3 : decode cX5_readTest 3 = .ok (.istore_n 3, 1) := by decide +kernel
theorem dX5_readTest_4 : decode cX5_readTest 4 = .ok (.aload_n 0, 1) := by decide +kernel
theorem dX5_readTest_5 : decode cX5_readTest 5 = .ok (.iload_n 1, 1) := by decide +kernel
theorem dX5_readTest_6 : decode cX5_readTest 6 = .ok (.invokevirtual 141, 3) := by decide +kernel
theorem dX5_readPlain_0 : decode cX5_readPlain 0 = .ok (.iconst 0, 1) := by decide +kernel
theorem dX5_readPlain_1 : decode cX5_readPlain 1 = .ok (.istore_n 2, 1) := by decide +kernel
theorem dX5_readPlain_2 : decode cX5_readPlain 2 = .ok (.iconst 0, 1) := by decide +kernel
theorem dX5_readPlain_3 : decode cX5_readPlain 3 = .ok (.istore_n 3, 1) := by decide +kernel
theorem dX5_readPlain_4 : decode cX5_readPlain 4 = .ok (.iload_n 3, 1) := by decide +kernel
theorem dX5_readPlain_5 : decode cX5_readPlain 5 = .ok (.aload_n 0, 1) := by decide +kernel
theorem dX5_readPlain_6 : decode cX5_readPlain 6 = .ok (.getfield 69, 3) := by decide +kernel
theorem dX5_readPlain_9 : decode cX5_readPlain 9 = .ok (.if_icmp .ge 44, 3) := by decide +kernel
theorem dX5_readPlain_12 : decode cX5_readPlain 12 = .ok (.aload_n 0, 1) := by decide +kernel
theorem dX5_readPlain_13 : decode cX5_readPlain 13 = .ok (.getfield 37, 3) := by decide +kernel
theorem dX5_readPlain_16 : decode cX5_readPlain 16 = .ok (.aload_n 0, 1) := by decide +kernel
theorem dX5_readPlain_17 : decode cX5_readPlain 17 = .ok (.getfield 60, 3) := by decide +kernel
theorem dX5_readPlain_20 : decode cX5_readPlain 20 = .ok (.iaload, 1) := by decide +kernel
theorem dX5_readPlain_21 : decode cX5_readPlain 21 = .ok (.sipush 267, 3) := by decide +kernel
theorem dX5_readPlain_24 : decode cX5_readPlain 24 = .ok (.if_icmp .ne 29, 3) := by decide +kernel
theorem dX5_readPlain_27 : decode cX5_readPlain 27 = .ok (.aload_n 0, 1) := by decide +kernel
theorem dX5_readPlain_28 : decode cX5_readPlain 28 = .ok (.dup, 1) := by decide +kernel
theorem dX5_readPlain_29 : decode cX5_readPlain 29 = .ok (.getfield 60, 3) := by decide +kernel
theorem dX5_readPlain_32 : decode cX5_readPlain 32 = .ok (.iconst 1, 1) := by decide +kernel
theorem dX5_readPlain_33 : decode cX5_readPlain 33 = .ok (.iadd, 1) := by decide +kernel
theorem dX5_readPlain_34 : decode cX5_readPlain 34 = .ok (.putfield 60, 3) := by decide +kernel
theorem dX5_readPlain_37 : decode cX5_readPlain 37 = .ok (.iload_n 2, 1) := by decide +kernel
theorem dX5_readPlain_38 : decode cX5_readPlain 38 = .ok (.ifCond .ne 7, 3) := by decide +kernel
theorem dX5_readPlain_41 : decode cX5_readPlain 41 = .ok (.iconst 1, 1) := by decide +kernel
theorem dX5_readPlain_42 : decode cX5_readPlain 42 = .ok (.goto 4, 3) := by decide +kernel
theorem dX5_readPlain_46 : decode cX5_readPlain 46 = .ok (.istore_n 2, 1) := by decide +kernel
theorem dX5_readPlain_47 : decode cX5_readPlain 47 = .ok (.iinc 3 1, 3) := by decide +kernel
theorem dX5_readPlain_50 : decode cX5_readPlain 50 = .ok (.goto (-46), 3) := by decide +kernel
theorem dX5_readPlain_45 : decode cX5_readPlain 45 = .ok (.iconst 0, 1) := by decide +kernel
theorem dX5_readPlain_53 : decode cX5_readPlain 53 = .ok (.aload_n 0, 1) := by decide +kernel
theorem dX5_readPlain_54 : decode cX5_readPlain 54 = .ok (.getfield 37, 3) := by decide +kernel
theorem dX5_readPlain_57 : decode cX5_readPlain 57 = .ok (.aload_n 0, 1) := by decide +kernel
theorem dX5_readPlain_58 : decode cX5_readPlain 58 = .ok (.getfield 60, 3) := by decide +kernel
theorem dX5_readPlain_61 : decode cX5_readPlain 61 = .ok (.iaload, 1) := by decide +kernel
theorem dX5_readPlain_62 : decode cX5_readPlain 62 = .ok (.bipush 40, 2) := by decide +kernel
theorem dX5_readPlain_64 : decode cX5_readPlain 64 = .ok (.if_icmp .ne 35, 3) := by decide +kernel
theorem dX5_readPlain_99 : decode cX5_readPlain 99 = .ok (.aload_n 0, 1) := by decide +kernel
theorem dX5_readPlain_100 : decode cX5_readPlain 100 = .ok (.getfield 37, 3) := by decide +kernel
theorem dX5_readPlain_103 : decode cX5_readPlain 103 = .ok (.aload_n 0, 1) := by decide +kernel
theorem dX5_readPlain_104 : decode cX5_readPlain 104 = .ok (.getfield 60, 3) := by decide +kernel
theorem dX5_readPlain_107 : decode cX5_readPlain 107 = .ok (.iaload, 1) := by decide +kernel
theorem dX5_readPlain_108 : decode cX5_readPlain 108 = .ok (.sipush 268, 3) := by decide +kernel
theorem dX5_readPlain_111 : decode cX5_readPlain 111 = .ok (.if_icmp .lt 34, 3) := by decide +kernel
theorem dX5_readPlain_145 : decode cX5_readPlain 145 = .ok (.aload_n 0, 1) := by decide +kernel
theorem dX5_readPlain_146 : decode cX5_readPlain 146 = .ok (.iload_n 1, 1) := by decide +kernel
theorem dX5_readPlain_147 : decode cX5_readPlain 147 = .ok (.invokevirtual 131, 3) := by decide +kernel
theorem dX5_readPlain_150 : decode cX5_readPlain 150 = .ok (.aload_n 0, 1) := by decide +kernel
theorem dX5_readPlain_151 : decode cX5_readPlain 151 = .ok (.getfield 37, 3) := by decide +kernel
theorem dX5_readPlain_154 : decode cX5_readPlain 154 = .ok (.aload_n 0, 1) := by decide +kernel
theorem dX5_readPlain_155 : decode cX5_readPlain 155 = .ok (.getfield 60, 3) := by decide +kernel
theorem dX5_readPlain_158 : decode cX5_readPlain 158 = .ok (.iaload, 1) := by decide +kernel
theorem dX5_readPlain_159 : decode cX5_readPlain 159 = .ok (.istore_n 3, 1) := by decide +kernel
theorem dX5_readPlain_160 : decode cX5_readPlain 160 = .ok (.iload_n 3, 1) := by decide +kernel
theorem dX5_readPlain_161 : decode cX5_readPlain 161 = .ok (.bipush 60, 2) := by decide +kernel
theorem dX5_readPlain_163 : decode cX5_readPlain 163 = .ok (.if_icmp .eq 19, 3) := by decide +kernel
theorem dX5_readPlain_166 : decode cX5_readPlain 166 = .ok (.iload_n 3, 1) := by decide +kernel
theorem dX5_readPlain_167 : decode cX5_readPlain 167 = .ok (.bipush 62, 2) := by decide +kernel
theorem dX5_readPlain_169 : decode cX5_readPlain 169 = .ok (.if_icmp .eq 13, 3) := by decide +kernel
theorem dX5_readPlain_172 : decode cX5_readPlain 172 = .ok (.iload_n 3, 1) := by decide +kernel
theorem dX5_readPlain_173 : decode cX5_readPlain 173 = .ok (.bipush 61, 2) := by decide +kernel
theorem dX5_readPlain_175 : decode cX5_readPlain 175 = .ok (.if_icmp .eq 7, 3) := by decide +kernel
theorem dX5_readPlain_178 : decode cX5_readPlain 178 = .ok (.aload_n 0, 1) := by decide +kernel
theorem dX5_readPlain_179 : decode cX5_readPlain 179 = .ok (.invokevirtual 72, 3) := by decide +kernel
theorem dX5_readPlain_182 : decode cX5_readPlain 182 = .ok (.aload_n 0, 1) := by decide +kernel
theorem dX5_readPlain_183 : decode cX5_readPlain 183 = .ok (.getfield 9, 3) := by decide +kernel
theorem dX5_readPlain_186 : decode cX5_readPlain 186 = .ok (.iconst (-1), 1) := by decide +kernel
theorem dX5_readPlain_187 : decode cX5_readPlain 187 = .ok (.if_icmp .ne 24, 3) := by decide +kernel
theorem dX5_readPlain_190 : decode cX5_readPlain 190 = .ok (.aload_n 0, 1) := by decide +kernel
theorem dX5_readPlain_191 : decode cX5_readPlain 191 = .ok (.dup, 1) := by decide +kernel
theorem dX5_readPlain_192 : decode cX5_readPlain 192 = .ok (.getfield 60, 3) := by decide +kernel
theorem dX5_readPlain_195 : decode cX5_readPlain 195 = .ok (.iconst 1, 1) := by decide +kernel
theorem dX5_readPlain_196 : decode cX5_readPlain 196 = .ok (.iadd, 1) := by decide +kernel
theorem dX5_readPlain_197 : decode cX5_readPlain 197 = .ok (.putfield 60, 3) := by decide +kernel
theorem dX5_readPlain_200 : decode cX5_readPlain 200 = .ok (.aload_n 0, 1) := by decide +kernel
theorem dX5_readPlain_201 : decode cX5_readPlain 201 = .ok (.iload_n 1, 1) := by decide +kernel
theorem dX5_readPlain_202 : decode cX5_readPlain 202 = .ok (.invokevirtual 131, 3) := by decide +kernel
theorem dX5_readPlain_205 : decode cX5_readPlain 205 = .ok (.aload_n 0, 1) := by decide +kernel
theorem dX5_readPlain_206 : decode cX5_readPlain 206 = .ok (.iload_n 3, 1) := by decide +kernel
theorem dX5_readPlain_207 : decode cX5_readPlain 207 = .ok (.iconst 0, 1) := by decide +kernel
theorem dX5_readPlain_208 : decode cX5_readPlain 208 = .ok (.invokevirtual 134, 3) := by decide +kernel
theorem dX5_readPlain_114 : decode cX5_readPlain 114 = .ok (.aload_n 0, 1) := by decide +kernel
theorem dX5_readPlain_115 : decode cX5_readPlain 115 = .ok (.getfield 37, 3) := by decide +kernel
theorem dX5_readPlain_118 : decode cX5_readPlain 118 = .ok (.aload_n 0, 1) := by decide +kernel
theorem dX5_readPlain_119 : decode cX5_readPlain 119 = .ok (.getfield 60, 3) := by decide +kernel
theorem dX5_readPlain_122 : decode cX5_readPlain 122 = .ok (.iaload, 1) := by decide +kernel
theorem dX5_readPlain_123 : decode cX5_readPlain 123 = .ok (.sipush 271, 3) := by decide +kernel
theorem dX5_readPlain_126 : decode cX5_readPlain 126 = .ok (.if_icmp .gt 19, 3) := by decide +kernel
theorem dX5_readPlain_129 : decode cX5_readPlain 129 = .ok (.aload_n 0, 1) := by decide +kernel
theorem dX5_readPlain_130 : decode cX5_readPlain 130 = .ok (.getfield 63, 3) := by decide +kernel
theorem dX5_readPlain_133 : decode cX5_readPlain 133 = .ok (.bipush 50, 2) := by decide +kernel
theorem dX5_readPlain_135 : decode cX5_readPlain 135 = .ok (.if_icmp .ge 10, 3) := by decide +kernel
theorem dX5_readPlain_138 : decode cX5_readPlain 138 = .ok (.aload_n 0, 1) := by decide +kernel
theorem dX5_readPlain_139 : decode cX5_readPlain 139 = .ok (.invokevirtual 147, 3) := by decide +kernel
theorem dX5_readPlain_142 : decode cX5_readPlain 142 = .ok (.goto 69, 3) := by decide +kernel
theorem dX5_readPlain_67 : decode cX5_readPlain 67 = .ok (.iload_n 1, 1) := by decide +kernel
theorem dX5_readPlain_68 : decode cX5_readPlain 68 = .ok (.bipush 8, 2) := by decide +kernel
theorem dX5_readPlain_70 : decode cX5_readPlain 70 = .ok (.if_icmp .ge 29, 3) := by decide +kernel
theorem dX5_readPlain_73 : decode cX5_readPlain 73 = .ok (.aload_n 0, 1) := by decide +kernel
theorem dX5_readPlain_74 : decode cX5_readPlain 74 = .ok (.dup, 1) := by decide +kernel
theorem dX5_readPlain_75 : decode cX5_readPlain 75 = .ok (.getfield 60, 3) := by decide +kernel
theorem dX5_readPlain_78 : decode cX5_readPlain 78 = .ok (.iconst 1, 1) := by decide +kernel
theorem dX5_readPlain_79 : decode cX5_readPlain 79 = .ok (.iadd, 1) := by decide +kernel
theorem dX5_readPlain_80 : decode cX5_readPlain 80 = .ok (.putfield 60, 3) := by decide +kernel
theorem dX5_readPlain_83 : decode cX5_readPlain 83 = .ok (.aload_n 0, 1) := by decide +kernel
theorem dX5_readPlain_84 : decode cX5_readPlain 84 = .ok (.iload_n 1, 1) := by decide +kernel
theorem dX5_readPlain_85 : decode cX5_readPlain 85 = .ok (.iconst 1, 1) := by decide +kernel
theorem dX5_readPlain_86 : decode cX5_readPlain 86 = .ok (.iadd, 1) := by decide +kernel
theorem dX5_readPlain_87 : decode cX5_readPlain 87 = .ok (.invokevirtual 138, 3) := by decide +kernel
theorem dX5_readPlain_90 : decode cX5_readPlain 90 = .ok (.aload_n 0, 1) := by decide +kernel
theorem dX5_readPlain_91 : decode cX5_readPlain 91 = .ok (.bipush 41, 2) := by decide +kernel
theorem dX5_readPlain_93 : decode cX5_readPlain 93 = .ok (.invokevirtual 127, 3) := by decide +kernel
theorem dX5_readPlain_96 : decode cX5_readPlain 96 = .ok (.goto 115, 3) := by decide +kernel
theorem dX5_readPlain_211 : decode cX5_readPlain 211 = .ok (.iload_n 2, 1) := by decide +kernel
theorem dX5_readPlain_212 : decode cX5_readPlain 212 = .ok (.ifCond .eq 11, 3) := by decide +kernel
theorem dX5_readPlain_215 : decode cX5_readPlain 215 = .ok (.aload_n 0, 1) := by decide +kernel
theorem dX5_readPlain_216 : decode cX5_readPlain 216 = .ok (.sipush 267, 3) := by decide +kernel
theorem dX5_readPlain_219 : decode cX5_readPlain 219 = .ok (.iconst 0, 1) := by decide +kernel
theorem dX5_readPlain_220 : decode cX5_readPlain 220 = .ok (.invokevirtual 134, 3) := by decide +kernel
theorem dX5_readPlain_223 : decode cX5_readPlain 223 = .ok (.return_, 1) := by decide +kernel
theorem dX5_readTest_9 : decode cX5_readTest 9 = .ok (.iconst 0, 1) := by decide +kernel
theorem dX5_readTest_10 : decode cX5_readTest 10 = .ok (.istore 4, 2) := by decide +kernel
theorem dX5_readTest_12 : decode cX5_readTest 12 = .ok (.iload 4, 2) := by decide +kernel
theorem dX5_readTest_14 : decode cX5_readTest 14 = .ok (.aload_n 0, 1) := by decide +kernel
theorem dX5_readTest_15 : decode cX5_readTest 15 = .ok (.getfield 69, 3) := by decide +kernel
theorem dX5_readTest_18 : decode cX5_readTest 18 = .ok (.if_icmp .ge 116, 3) := by decide +kernel
theorem dX5_readTest_21 : decode cX5_readTest 21 = .ok (.aload_n 0, 1) := by decide +kernel
theorem dX5_readTest_22 : decode cX5_readTest 22 = .ok (.getfield 9, 3) := by decide +kernel
theorem dX5_readTest_25 : decode cX5_readTest 25 = .ok (.iconst (-1), 1) := by decide +kernel
theorem dX5_readTest_26 : decode cX5_readTest 26 = .ok (.if_icmp .ne 108, 3) := by decide +kernel
theorem dX5_readTest_29 : decode cX5_readTest 29 = .ok (.aload_n 0, 1) := by decide +kernel
theorem dX5_readTest_30 : decode cX5_readTest 30 = .ok (.getfield 37, 3) := by decide +kernel
theorem dX5_readTest_33 : decode cX5_readTest 33 = .ok (.aload_n 0, 1) := by decide +kernel
theorem dX5_readTest_34 : decode cX5_readTest 34 = .ok (.getfield 60, 3) := by decide +kernel
theorem dX5_readTest_37 : decode cX5_readTest 37 = .ok (.iaload, 1) := by decide +kernel
theorem dX5_readTest_38 : decode cX5_readTest 38 = .ok (.sipush 265, 3) := by decide +kernel
theorem dX5_readTest_41 : decode cX5_readTest 41 = .ok (.if_icmp .eq 18, 3) := by decide +kernel
theorem dX5_readTest_59 : decode cX5_readTest 59 = .ok (.aload_n 0, 1) := by decide +kernel
theorem dX5_readTest_60 : decode cX5_readTest 60 = .ok (.iload_n 3, 1) := by decide +kernel
theorem dX5_readTest_61 : decode cX5_readTest 61 = .ok (.invokevirtual 144, 3) := by decide +kernel
theorem dX5_skipToHere_0 : decode cX5_skipToHere 0 = .ok (.iload_n 1, 1) := by decide +kernel
theorem dX5_skipToHere_1 : decode cX5_skipToHere 1 = .ok (.ifCond .lt 22, 3) := by decide +kernel
theorem dX5_skipToHere_4 : decode cX5_skipToHere 4 = .ok (.iload_n 1, 1) := by decide +kernel
theorem dX5_skipToHere_5 : decode cX5_skipToHere 5 = .ok (.aload_n 0, 1) := by decide +kernel
theorem dX5_skipToHere_6 : decode cX5_skipToHere 6 = .ok (.getfield 34, 3) := by decide +kernel
theorem dX5_skipToHere_9 : decode cX5_skipToHere 9 = .ok (.arraylength, 1) := by decide +kernel
theorem dX5_skipToHere_10 : decode cX5_skipToHere 10 = .ok (.if_icmp .ge 13, 3) := by decide +kernel
theorem dX5_skipToHere_13 : decode cX5_skipToHere 13 = .ok (.aload_n 0, 1) := by decide +kernel
theorem dX5_skipToHere_14 : decode cX5_skipToHere 14 = .ok (.getfield 34, 3) := by decide +kernel
theorem dX5_skipToHere_17 : decode cX5_skipToHere 17 = .ok (.iload_n 1, 1) := by decide +kernel
theorem dX5_skipToHere_18 : decode cX5_skipToHere 18 = .ok (.aload_n 0, 1) := by decide +kernel
theorem dX5_skipToHere_19 : decode cX5_skipToHere 19 = .ok (.getfield 57, 3) := by decide +kernel
theorem dX5_skipToHere_22 : decode cX5_skipToHere 22 = .ok (.iastore, 1) := by decide +kernel
theorem dX5_skipToHere_23 : decode cX5_skipToHere 23 = .ok (.return_, 1) := by decide +kernel
theorem dX5_readTest_64 : decode cX5_readTest 64 = .ok (.aload_n 0, 1) := by decide +kernel
theorem dX5_readTest_65 : decode cX5_readTest 65 = .ok (.getfield 37, 3) := by decide +kernel
theorem dX5_readTest_68 : decode cX5_readTest 68 = .ok (.aload_n 0, 1) := by decide +kernel
theorem dX5_readTest_69 : decode cX5_readTest 69 = .ok (.getfield 60, 3) := by decide +kernel
theorem dX5_readTest_72 : decode cX5_readTest 72 = .ok (.iaload, 1) := by decide +kernel
theorem dX5_readTest_73 : decode cX5_readTest 73 = .ok (.sipush 265, 3) := by decide +kernel
theorem dX5_readTest_76 : decode cX5_readTest 76 = .ok (.if_icmp .ne 18, 3) := by decide +kernel
theorem dX5_readTest_79 : decode cX5_readTest 79 = .ok (.aload_n 0, 1) := by decide +kernel
theorem dX5_readTest_80 : decode cX5_readTest 80 = .ok (.iload_n 2, 1) := by decide +kernel
theorem dX5_readTest_81 : decode cX5_readTest 81 = .ok (.invokevirtual 144, 3) := by decide +kernel
theorem dX5_readTest_84 : decode cX5_readTest 84 = .ok (.aload_n 0, 1) := by decide +kernel
theorem dX5_readTest_85 : decode cX5_readTest 85 = .ok (.getfield 57, 3) := by decide +kernel
theorem dX5_readTest_88 : decode cX5_readTest 88 = .ok (.istore_n 2, 1) := by decide +kernel
theorem dX5_readTest_89 : decode cX5_readTest 89 = .ok (.iconst (-1), 1) := by decide +kernel
theorem dX5_readTest_90 : decode cX5_readTest 90 = .ok (.istore_n 3, 1) := by decide +kernel
theorem dX5_readTest_91 : decode cX5_readTest 91 = .ok (.goto 8, 3) := by decide +kernel
theorem dX5_readTest_99 : decode cX5_readTest 99 = .ok (.aload_n 0, 1) := by decide +kernel
theorem dX5_readTest_100 : decode cX5_readTest 100 = .ok (.aload_n 0, 1) := by decide +kernel
theorem dX5_readTest_101 : decode cX5_readTest 101 = .ok (.getfield 37, 3) := by decide +kernel
theorem dX5_readTest_104 : decode cX5_readTest 104 = .ok (.aload_n 0, 1) := by decide +kernel
theorem dX5_readTest_105 : decode cX5_readTest 105 = .ok (.getfield 60, 3) := by decide +kernel
theorem dX5_readTest_108 : decode cX5_readTest 108 = .ok (.iaload, 1) := by decide +kernel
theorem dX5_readTest_109 : decode cX5_readTest 109 = .ok (.iconst 0, 1) := by decide +kernel
theorem dX5_readTest_110 : decode cX5_readTest 110 = .ok (.invokevirtual 134, 3) := by decide +kernel
theorem dX5_readTest_113 : decode cX5_readTest 113 = .ok (.aload_n 0, 1) := by decide +kernel
theorem dX5_readTest_114 : decode cX5_readTest 114 = .ok (.dup, 1) := by decide +kernel
theorem dX5_readTest_115 : decode cX5_readTest 115 = .ok (.getfield 60, 3) := by decide +kernel
theorem dX5_readTest_118 : decode cX5_readTest 118 = .ok (.iconst 1, 1) := by decide +kernel
theorem dX5_readTest_119 : decode cX5_readTest 119 = .ok (.iadd, 1) := by decide +kernel
theorem dX5_readTest_120 : decode cX5_readTest 120 = .ok (.putfield 60, 3) := by decide +kernel
theorem dX5_readTest_123 : decode cX5_readTest 123 = .ok (.aload_n 0, 1) := by decide +kernel
theorem dX5_readTest_124 : decode cX5_readTest 124 = .ok (.iload_n 1, 1) := by decide +kernel
theorem dX5_readTest_125 : decode cX5_readTest 125 = .ok (.invokevirtual 141, 3) := by decide +kernel
theorem dX5_readTest_128 : decode cX5_readTest 128 = .ok (.iinc 4 1, 3) := by decide +kernel
theorem dX5_readTest_131 : decode cX5_readTest 131 = .ok (.goto (-119), 3) := by decide +kernel
theorem dX5_readTest_44 : decode cX5_readTest 44 = .ok (.aload_n 0, 1) := by decide +kernel
theorem dX5_readTest_45 : decode cX5_readTest 45 = .ok (.getfield 37, 3) := by decide +kernel
theorem dX5_readTest_48 : decode cX5_readTest 48 = .ok (.aload_n 0, 1) := by decide +kernel
theorem dX5_readTest_49 : decode cX5_readTest 49 = .ok (.getfield 60, 3) := by decide +kernel
theorem dX5_readTest_52 : decode cX5_readTest 52 = .ok (.iaload, 1) := by decide +kernel
theorem dX5_readTest_53 : decode cX5_readTest 53 = .ok (.sipush 266, 3) := by decide +kernel
theorem dX5_readTest_56 : decode cX5_readTest 56 = .ok (.if_icmp .ne 78, 3) := by decide +kernel
theorem dX5_readTest_94 : decode cX5_readTest 94 = .ok (.aload_n 0, 1) := by decide +kernel
theorem dX5_readTest_95 : decode cX5_readTest 95 = .ok (.getfield 57, 3) := by decide +kernel
theorem dX5_readTest_98 : decode cX5_readTest 98 = .ok (.istore_n 3, 1) := by decide +kernel
theorem dX5_readTest_134 : decode cX5_readTest 134 = .ok (.aload_n 0, 1) := by decide +kernel
theorem dX5_readTest_135 : decode cX5_readTest 135 = .ok (.iload_n 3, 1) := by decide +kernel
theorem dX5_readTest_136 : decode cX5_readTest 136 = .ok (.invokevirtual 144, 3) := by decide +kernel
theorem dX5_readTest_139 : decode cX5_readTest 139 = .ok (.aload_n 0, 1) := by decide +kernel
theorem dX5_readTest_140 : decode cX5_readTest 140 = .ok (.iload_n 2, 1) := by decide +kernel
theorem dX5_readTest_141 : decode cX5_readTest 141 = .ok (.invokevirtual 144, 3) := by decide +kernel
theorem dX5_readTest_144 : decode cX5_readTest 144 = .ok (.return_, 1) := by decide +kernel
theorem dX5_readClause_294 : decode cX5_readClause 294 = .ok (.aload_n 0, 1) := by decide +kernel
theorem dX5_readClause_295 : decode cX5_readClause 295 = .ok (.sipush 259, 3) := by decide +kernel
theorem dX5_readClause_298 : decode cX5_readClause 298 = .ok (.iconst 0, 1) := by decide +kernel
theorem dX5_readClause_299 : decode cX5_readClause 299 = .ok (.invokevirtual 134, 3) := by decide +kernel
theorem dX5_readClause_302 : decode cX5_readClause 302 = .ok (.aload_n 0, 1) := by decide +kernel
theorem dX5_readClause_303 : decode cX5_readClause 303 = .ok (.getfield 28, 3) := by decide +kernel
theorem dX5_readClause_306 : decode cX5_readClause 306 = .ok (.iload_n 1, 1) := by decide +kernel
theorem dX5_readClause_307 : decode cX5_readClause 307 = .ok (.aload_n 0, 1) := by decide +kernel
theorem dX5_readClause_308 : decode cX5_readClause 308 = .ok (.getfield 57, 3) := by decide +kernel
theorem dX5_readClause_311 : decode cX5_readClause 311 = .ok (.iastore, 1) := by decide +kernel
theorem dX5_readClause_312 : decode cX5_readClause 312 = .ok (.return_, 1) := by decide +kernel
theorem dX5_readClause_9 : decode cX5_readClause 9 = .ok (.aload_n 0, 1) := by decide +kernel
theorem dX5_readClause_10 : decode cX5_readClause 10 = .ok (.invokevirtual 72, 3) := by decide +kernel
theorem dX5_readClause_13 : decode cX5_readClause 13 = .ok (.return_, 1) := by decide +kernel
theorem dX5_read_39 : decode cX5_read 39 = .ok (.iconst 0, 1) := by decide +kernel
theorem dX5_read_40 : decode cX5_read 40 = .ok (.istore_n 3, 1) := by decide +kernel
theorem dX5_read_41 : decode cX5_read 41 = .ok (.iload_n 3, 1) := by decide +kernel
theorem dX5_read_42 : decode cX5_read 42 = .ok (.aload_n 0, 1) := by decide +kernel
theorem dX5_read_43 : decode cX5_read 43 = .ok (.getfield 69, 3) := by decide +kernel
theorem dX5_read_46 : decode cX5_read 46 = .ok (.if_icmp .ge 45, 3) := by decide +kernel
theorem dX5_read_49 : decode cX5_read 49 = .ok (.aload_n 0, 1) := by decide +kernel
theorem dX5_read_50 : decode cX5_read 50 = .ok (.getfield 9, 3) := by decide +kernel
theorem dX5_read_53 : decode cX5_read 53 = .ok (.iconst (-1), 1) := by decide +kernel
theorem dX5_read_54 : decode cX5_read 54 = .ok (.if_icmp .ne 37, 3) := by decide +kernel
theorem dX5_read_57 : decode cX5_read 57 = .ok (.aload_n 0, 1) := by decide +kernel
theorem dX5_read_58 : decode cX5_read 58 = .ok (.getfield 37, 3) := by decide +kernel
theorem dX5_read_61 : decode cX5_read 61 = .ok (.aload_n 0, 1) := by decide +kernel
theorem dX5_read_62 : decode cX5_read 62 = .ok (.getfield 60, 3) := by decide +kernel
theorem dX5_read_65 : decode cX5_read 65 = .ok (.iaload, 1) := by decide +kernel
theorem dX5_read_66 : decode cX5_read 66 = .ok (.bipush 59, 2) := by decide +kernel
theorem dX5_read_68 : decode cX5_read 68 = .ok (.if_icmp .ne 23, 3) := by decide +kernel
theorem dX5_read_71 : decode cX5_read 71 = .ok (.aload_n 0, 1) := by decide +kernel
theorem dX5_read_72 : decode cX5_read 72 = .ok (.dup, 1) := by decide +kernel
theorem dX5_read_73 : decode cX5_read 73 = .ok (.getfield 60, 3) := by decide +kernel
theorem dX5_read_76 : decode cX5_read 76 = .ok (.iconst 1, 1) := by decide +kernel
theorem dX5_read_77 : decode cX5_read 77 = .ok (.iadd, 1) := by decide +kernel
theorem dX5_read_78 : decode cX5_read 78 = .ok (.putfield 60, 3) := by decide +kernel
theorem dX5_read_81 : decode cX5_read 81 = .ok (.aload_n 0, 1) := by decide +kernel
theorem dX5_read_82 : decode cX5_read 82 = .ok (.invokevirtual 66, 3) := by decide +kernel
theorem dX5_read_85 : decode cX5_read 85 = .ok (.iinc 3 1, 3) := by decide +kernel
theorem dX5_read_88 : decode cX5_read 88 = .ok (.goto (-47), 3) := by decide +kernel
theorem dX5_read_91 : decode cX5_read 91 = .ok (.aload_n 0, 1) := by decide +kernel
theorem dX5_read_92 : decode cX5_read 92 = .ok (.getfield 37, 3) := by decide +kernel
theorem dX5_read_95 : decode cX5_read 95 = .ok (.aload_n 0, 1) := by decide +kernel
theorem dX5_read_96 : decode cX5_read 96 = .ok (.getfield 60, 3) := by decide +kernel
theorem dX5_read_99 : decode cX5_read 99 = .ok (.iaload, 1) := by decide +kernel
theorem dX5_read_100 : decode cX5_read 100 = .ok (.sipush 302, 3) := by decide +kernel
theorem dX5_read_103 : decode cX5_read 103 = .ok (.if_icmp .eq 7, 3) := by decide +kernel
theorem dX5_read_106 : decode cX5_read 106 = .ok (.aload_n 0, 1) := by decide +kernel
theorem dX5_read_107 : decode cX5_read 107 = .ok (.invokevirtual 72, 3) := by decide +kernel
theorem dX5_read_110 : decode cX5_read 110 = .ok (.aload_n 0, 1) := by decide +kernel
theorem dX5_read_111 : decode cX5_read 111 = .ok (.getfield 9, 3) := by decide +kernel
theorem dX5_read_114 : decode cX5_read 114 = .ok (.iconst (-1), 1) := by decide +kernel
theorem dX5_read_115 : decode cX5_read 115 = .ok (.if_icmp .ne 15, 3) := by decide +kernel
theorem dX5_read_130 : decode cX5_read 130 = .ok (.aconst_null, 1) := by decide +kernel
theorem dX5_read_118 : decode cX5_read 118 = .ok (.new 75, 3) := by decide +kernel
theorem dX11_beside_51 : decode cX11_beside 51 = .ok (.goto 4, 3) := by decide +kernel
theorem dX11_beside_55 : decode cX11_beside 55 = .ok (.astore_n 3, 1) := by decide +kernel
theorem dX11_beside_56 : decode cX11_beside 56 = .ok (.aload_n 0, 1) := by decide +kernel
theorem dX11_beside_57 : decode cX11_beside 57 = .ok (.getfield 30, 3) := by decide +kernel
theorem dX11_beside_60 : decode cX11_beside 60 = .ok (.iconst 0, 1) := by decide +kernel
theorem dX11_beside_61 : decode cX11_beside 61 = .ok (.putfield 209, 3) := by decide +kernel
theorem dX11_beside_64 : decode cX11_beside 64 = .ok (.aload_n 3, 1) := by decide +kernel
theorem dX11_beside_65 : decode cX11_beside 65 = .ok (.ifnonnull 9, 3) := by decide +kernel
theorem dX11_beside_68 : decode cX11_beside 68 = .ok (.ldc2_w 332, 3) := by decide +kernel
theorem dX11_beside_71 : decode cX11_beside 71 = .ok (.goto 16, 3) := by decide +kernel
theorem dX11_beside_87 : decode cX11_beside 87 = .ok (.lreturn, 1) := by decide +kernel
theorem dX11_beside_74 : decode cX11_beside 74 = .ok (.aload_n 0, 1) := by decide +kernel
theorem dX11_beside_75 : decode cX11_beside 75 = .ok (.iload_n 1, 1) := by decide +kernel
theorem dX11_beside_76 : decode cX11_beside 76 = .ok (.aload_n 3, 1) := by decide +kernel
theorem dX11_beside_77 : decode cX11_beside 77 = .ok (.invokevirtual 334, 3) := by decide +kernel
theorem dX11_gotOnPaper_0 : decode cX11_gotOnPaper 0 = .ok (.aload_n 0, 1) := by decide +kernel
theorem dX11_gotOnPaper_1 : decode cX11_gotOnPaper 1 = .ok (.getfield 18, 3) := by decide +kernel
theorem dX11_gotOnPaper_4 : decode cX11_gotOnPaper 4 = .ok (.aload_n 0, 1) := by decide +kernel
theorem dX11_gotOnPaper_5 : decode cX11_gotOnPaper 5 = .ok (.getfield 12, 3) := by decide +kernel
theorem dX11_gotOnPaper_8 : decode cX11_gotOnPaper 8 = .ok (.invokevirtual 345, 3) := by decide +kernel
theorem dX11_gotOnPaper_11 : decode cX11_gotOnPaper 11 = .ok (.aload_n 2, 1) := by decide +kernel
theorem dX11_gotOnPaper_12 : decode cX11_gotOnPaper 12 = .ok (.ifnull 15, 3) := by decide +kernel
theorem dX11_gotOnPaper_15 : decode cX11_gotOnPaper 15 = .ok (.aload_n 0, 1) := by decide +kernel
theorem dX11_gotOnPaper_16 : decode cX11_gotOnPaper 16 = .ok (.getfield 18, 3) := by decide +kernel
theorem dX11_gotOnPaper_19 : decode cX11_gotOnPaper 19 = .ok (.getfield 219, 3) := by decide +kernel
theorem dX11_gotOnPaper_22 : decode cX11_gotOnPaper 22 = .ok (.aload_n 2, 1) := by decide +kernel
theorem dX11_gotOnPaper_23 : decode cX11_gotOnPaper 23 = .ok (.invokevirtual 230, 3) := by decide +kernel
theorem dX2_add_0 : decode cX2_add 0 = .ok (.aload_n 0, 1) := by decide +kernel
theorem dX2_add_1 : decode cX2_add 1 = .ok (.getfield 24, 3) := by decide +kernel
theorem dX2_add_4 : decode cX2_add 4 = .ok (.bipush 20, 2) := by decide +kernel
theorem dX2_add_6 : decode cX2_add 6 = .ok (.if_icmp .lt 5, 3) := by decide +kernel
theorem dX2_add_11 : decode cX2_add 11 = .ok (.aload_n 0, 1) := by decide +kernel
theorem dX2_add_12 : decode cX2_add 12 = .ok (.getfield 11, 3) := by decide +kernel
theorem dX2_add_15 : decode cX2_add 15 = .ok (.aload_n 0, 1) := by decide +kernel
theorem dX2_add_16 : decode cX2_add 16 = .ok (.getfield 24, 3) := by decide +kernel
theorem dX2_add_19 : decode cX2_add 19 = .ok (.aload_n 1, 1) := by decide +kernel
theorem dX2_add_20 : decode cX2_add 20 = .ok (.aastore, 1) := by decide +kernel
theorem dX2_add_21 : decode cX2_add 21 = .ok (.aload_n 0, 1) := by decide +kernel
theorem dX2_add_22 : decode cX2_add 22 = .ok (.dup, 1) := by decide +kernel
theorem dX2_add_23 : decode cX2_add 23 = .ok (.getfield 24, 3) := by decide +kernel
theorem dX2_add_26 : decode cX2_add 26 = .ok (.iconst 1, 1) := by decide +kernel
theorem dX2_add_27 : decode cX2_add 27 = .ok (.iadd, 1) := by decide +kernel
theorem dX2_add_28 : decode cX2_add 28 = .ok (.putfield 24, 3) := by decide +kernel
theorem dX2_add_31 : decode cX2_add 31 = .ok (.aload_n 0, 1) := by decide +kernel
theorem dX2_add_32 : decode cX2_add 32 = .ok (.getfield 24, 3) := by decide +kernel
theorem dX2_add_35 : decode cX2_add 35 = .ok (.iconst 1, 1) := by decide +kernel
theorem dX2_add_36 : decode cX2_add 36 = .ok (.isub, 1) := by decide +kernel
theorem dX2_add_37 : decode cX2_add 37 = .ok (.ireturn, 1) := by decide +kernel
theorem dX2_add_9 : decode cX2_add 9 = .ok (.iconst (-1), 1) := by decide +kernel
theorem dX2_add_10 : decode cX2_add 10 = .ok (.ireturn, 1) := by decide +kernel
theorem dX11_gotOnPaper_26 : decode cX11_gotOnPaper 26 = .ok (.pop, 1) := by decide +kernel
theorem dX11_gotOnPaper_27 : decode cX11_gotOnPaper 27 = .ok (.iconst 0, 1) := by decide +kernel
theorem dX11_gotOnPaper_28 : decode cX11_gotOnPaper 28 = .ok (.istore_n 3, 1) := by decide +kernel
theorem dX11_gotOnPaper_29 : decode cX11_gotOnPaper 29 = .ok (.iload_n 3, 1) := by decide +kernel
theorem dX11_gotOnPaper_30 : decode cX11_gotOnPaper 30 = .ok (.iload_n 1, 1) := by decide +kernel
theorem dX11_gotOnPaper_31 : decode cX11_gotOnPaper 31 = .ok (.if_icmp .ge 16, 3) := by decide +kernel
theorem dX11_gotOnPaper_34 : decode cX11_gotOnPaper 34 = .ok (.aload_n 0, 1) := by decide +kernel
theorem dX11_gotOnPaper_35 : decode cX11_gotOnPaper 35 = .ok (.getfield 18, 3) := by decide +kernel
theorem dX11_gotOnPaper_38 : decode cX11_gotOnPaper 38 = .ok (.invokevirtual 276, 3) := by decide +kernel
theorem dX11_gotOnPaper_41 : decode cX11_gotOnPaper 41 = .ok (.iinc 3 1, 3) := by decide +kernel
theorem dX11_gotOnPaper_44 : decode cX11_gotOnPaper 44 = .ok (.goto (-15), 3) := by decide +kernel
theorem dX11_gotOnPaper_47 : decode cX11_gotOnPaper 47 = .ok (.aload_n 0, 1) := by decide +kernel
theorem dX11_gotOnPaper_48 : decode cX11_gotOnPaper 48 = .ok (.getfield 18, 3) := by decide +kernel
theorem dX11_gotOnPaper_51 : decode cX11_gotOnPaper 51 = .ok (.getfield 395, 3) := by decide +kernel
theorem dX11_gotOnPaper_54 : decode cX11_gotOnPaper 54 = .ok (.lreturn, 1) := by decide +kernel
theorem dX11_beside_80 : decode cX11_beside 80 = .ok (.aload_n 0, 1) := by decide +kernel
theorem dX11_beside_81 : decode cX11_beside 81 = .ok (.iload_n 1, 1) := by decide +kernel
theorem dX11_beside_82 : decode cX11_beside 82 = .ok (.aconst_null, 1) := by decide +kernel
theorem dX11_beside_83 : decode cX11_beside 83 = .ok (.invokevirtual 334, 3) := by decide +kernel
theorem dX11_bitsOfRow_0 : decode cX11_bitsOfRow 0 = .ok (.iconst 0, 1) := by decide +kernel
theorem dX11_bitsOfRow_1 : decode cX11_bitsOfRow 1 = .ok (.istore_n 2, 1) := by decide +kernel
theorem dX11_bitsOfRow_2 : decode cX11_bitsOfRow 2 = .ok (.iconst 0, 1) := by decide +kernel
theorem dX11_bitsOfRow_3 : decode cX11_bitsOfRow 3 = .ok (.istore_n 3, 1) := by decide +kernel
theorem dX11_bitsOfRow_4 : decode cX11_bitsOfRow 4 = .ok (.iload_n 3, 1) := by decide +kernel
theorem dX11_bitsOfRow_5 : decode cX11_bitsOfRow 5 = .ok (.aload_n 0, 1) := by decide +kernel
theorem dX11_bitsOfRow_6 : decode cX11_bitsOfRow 6 = .ok (.getfield 309, 3) := by decide +kernel
theorem dX11_bitsOfRow_9 : decode cX11_bitsOfRow 9 = .ok (.if_icmp .ge 26, 3) := by decide +kernel
theorem dX11_bitsOfRow_12 : decode cX11_bitsOfRow 12 = .ok (.iload_n 2, 1) := by decide +kernel
theorem dX11_bitsOfRow_13 : decode cX11_bitsOfRow 13 = .ok (.iload_n 1, 1) := by decide +kernel
theorem dX11_bitsOfRow_14 : decode cX11_bitsOfRow 14 = .ok (.iload_n 3, 1) := by decide +kernel
theorem dX11_bitsOfRow_15 : decode cX11_bitsOfRow 15 = .ok (.ishr, 1) := by decide +kernel
theorem dX11_bitsOfRow_16 : decode cX11_bitsOfRow 16 = .ok (.iconst 1, 1) := by decide +kernel
theorem dX11_bitsOfRow_17 : decode cX11_bitsOfRow 17 = .ok (.iand, 1) := by decide +kernel
theorem dX11_bitsOfRow_18 : decode cX11_bitsOfRow 18 = .ok (.aload_n 0, 1) := by decide +kernel
theorem dX11_bitsOfRow_19 : decode cX11_bitsOfRow 19 = .ok (.getfield 309, 3) := by decide +kernel
theorem dX11_bitsOfRow_22 : decode cX11_bitsOfRow 22 = .ok (.iconst 1, 1) := by decide +kernel
theorem dX11_bitsOfRow_23 : decode cX11_bitsOfRow 23 = .ok (.isub, 1) := by decide +kernel
theorem dX11_bitsOfRow_24 : decode cX11_bitsOfRow 24 = .ok (.iload_n 3, 1) := by decide +kernel
theorem dX11_bitsOfRow_25 : decode cX11_bitsOfRow 25 = .ok (.isub, 1) := by decide +kernel
theorem dX11_bitsOfRow_26 : decode cX11_bitsOfRow 26 = .ok (.ishl, 1) := by decide +kernel
theorem dX11_bitsOfRow_27 : decode cX11_bitsOfRow 27 = .ok (.ior, 1) := by decide +kernel
theorem dX11_bitsOfRow_28 : decode cX11_bitsOfRow 28 = .ok (.istore_n 2, 1) := by decide +kernel
theorem dX11_bitsOfRow_29 : decode cX11_bitsOfRow 29 = .ok (.iinc 3 1, 3) := by decide +kernel
theorem dX11_bitsOfRow_32 : decode cX11_bitsOfRow 32 = .ok (.goto (-28), 3) := by decide +kernel
theorem dX11_bitsOfRow_35 : decode cX11_bitsOfRow 35 = .ok (.iload_n 2, 1) := by decide +kernel
theorem dX11_bitsOfRow_36 : decode cX11_bitsOfRow 36 = .ok (.ireturn, 1) := by decide +kernel
theorem dX11_brave_0 : decode cX11_brave 0 = .ok (.iload_n 1, 1) := by decide +kernel
theorem dX11_brave_1 : decode cX11_brave 1 = .ok (.iconst 0, 1) := by decide +kernel
theorem dX11_brave_2 : decode cX11_brave 2 = .ok (.bipush 101, 2) := by decide +kernel
theorem dX11_brave_4 : decode cX11_brave 4 = .ok (.invokestatic 54, 3) := by decide +kernel
theorem dX11_brave_7 : decode cX11_brave 7 = .ok (.ifCond .ne 9, 3) := by decide +kernel
theorem dX11_brave_16 : decode cX11_brave 16 = .ok (.aload_n 0, 1) := by decide +kernel
theorem dX11_brave_17 : decode cX11_brave 17 = .ok (.getfield 12, 3) := by decide +kernel
theorem dX11_brave_20 : decode cX11_brave 20 = .ok (.getfield 98, 3) := by decide +kernel
theorem dX11_brave_23 : decode cX11_brave 23 = .ok (.getfield 282, 3) := by decide +kernel
theorem dX11_brave_26 : decode cX11_brave 26 = .ok (.istore_n 2, 1) := by decide +kernel
theorem dX11_brave_27 : decode cX11_brave 27 = .ok (.aload_n 0, 1) := by decide +kernel
theorem dX11_brave_28 : decode cX11_brave 28 = .ok (.getfield 12, 3) := by decide +kernel
theorem dX11_brave_31 : decode cX11_brave 31 = .ok (.getfield 98, 3) := by decide +kernel
theorem dX11_brave_34 : decode cX11_brave 34 = .ok (.iload_n 1, 1) := by decide +kernel
theorem dX11_brave_35 : decode cX11_brave 35 = .ok (.putfield 282, 3) := by decide +kernel
theorem dX11_brave_38 : decode cX11_brave 38 = .ok (.aload_n 0, 1) := by decide +kernel
theorem dX11_brave_39 : decode cX11_brave 39 = .ok (.iload_n 2, 1) := by decide +kernel
theorem dX11_brave_40 : decode cX11_brave 40 = .ok (.invokevirtual 77, 3) := by decide +kernel
theorem dX11_brave_43 : decode cX11_brave 43 = .ok (.ireturn, 1) := by decide +kernel
theorem dX11_brave_10 : decode cX11_brave 10 = .ok (.aload_n 0, 1) := by decide +kernel
theorem dX11_brave_11 : decode cX11_brave 11 = .ok (.iconst (-1), 1) := by decide +kernel
theorem dX11_brave_12 : decode cX11_brave 12 = .ok (.invokevirtual 59, 3) := by decide +kernel
theorem dX11_brave_15 : decode cX11_brave 15 = .ok (.ireturn, 1) := by decide +kernel
theorem dX11_broke_0 : decode cX11_broke 0 = .ok (.aload_n 0, 1) := by decide +kernel
theorem dX11_broke_1 : decode cX11_broke 1 = .ok (.getfield 12, 3) := by decide +kernel
theorem dX11_broke_4 : decode cX11_broke 4 = .ok (.getfield 63, 3) := by decide +kernel
theorem dX11_broke_7 : decode cX11_broke 7 = .ok (.astore 5, 2) := by decide +kernel
theorem dX11_broke_9 : decode cX11_broke 9 = .ok (.aload 5, 2) := by decide +kernel
theorem dX11_broke_11 : decode cX11_broke 11 = .ok (.iload_n 1, 1) := by decide +kernel
theorem dX11_broke_12 : decode cX11_broke 12 = .ok (.invokevirtual 80, 3) := by decide +kernel
theorem dX11_broke_15 : decode cX11_broke 15 = .ok (.ifCond .eq 33, 3) := by decide +kernel
theorem dX11_broke_48 : decode cX11_broke 48 = .ok (.iconst (-1), 1) := by decide +kernel
theorem dX11_broke_49 : decode cX11_broke 49 = .ok (.ireturn, 1) := by decide +kernel
theorem dX11_broke_18 : decode cX11_broke 18 = .ok (.aload 5, 2) := by decide +kernel
theorem dX11_broke_20 : decode cX11_broke 20 = .ok (.getfield 141, 3) := by decide +kernel
theorem dX11_broke_23 : decode cX11_broke 23 = .ok (.iload_n 1, 1) := by decide +kernel
theorem dX11_broke_24 : decode cX11_broke 24 = .ok (.iaload, 1) := by decide +kernel
theorem dX11_broke_25 : decode cX11_broke 25 = .ok (.ifCond .eq 23, 3) := by decide +kernel
theorem dX11_broke_28 : decode cX11_broke 28 = .ok (.iload_n 2, 1) := by decide +kernel
theorem dX11_broke_29 : decode cX11_broke 29 = .ok (.iconst 1, 1) := by decide +kernel
theorem dX11_broke_30 : decode cX11_broke 30 = .ok (.sipush 10000, 3) := by decide +kernel
theorem dX11_broke_33 : decode cX11_broke 33 = .ok (.invokestatic 54, 3) := by decide +kernel
theorem dX11_broke_36 : decode cX11_broke 36 = .ok (.ifCond .eq 12, 3) := by decide +kernel
theorem dX11_broke_39 : decode cX11_broke 39 = .ok (.iload_n 3, 1) := by decide +kernel
theorem dX11_broke_40 : decode cX11_broke 40 = .ok (.iconst 0, 1) := by decide +kernel
theorem dX11_broke_41 : decode cX11_broke 41 = .ok (.iconst 2, 1) := by decide +kernel
theorem dX11_broke_42 : decode cX11_broke 42 = .ok (.invokestatic 54, 3) := by decide +kernel
theorem dX11_broke_45 : decode cX11_broke 45 = .ok (.ifCond .ne 5, 3) := by decide +kernel
theorem dX11_broke_50 : decode cX11_broke 50 = .ok (.iconst 0, 1) := by decide +kernel
theorem dX11_broke_51 : decode cX11_broke 51 = .ok (.istore 6, 2) := by decide +kernel
theorem dX11_broke_53 : decode cX11_broke 53 = .ok (.iconst (-1), 1) := by decide +kernel
theorem dX11_broke_54 : decode cX11_broke 54 = .ok (.istore 7, 2) := by decide +kernel
theorem dX11_broke_56 : decode cX11_broke 56 = .ok (.iload_n 3, 1) := by decide +kernel
theorem dX11_broke_57 : decode cX11_broke 57 = .ok (.iconst 2, 1) := by decide +kernel
theorem dX11_broke_58 : decode cX11_broke 58 = .ok (.if_icmp .ne 8, 3) := by decide +kernel
theorem dX11_broke_66 : decode cX11_broke 66 = .ok (.iconst 0, 1) := by decide +kernel
theorem dX11_broke_61 : decode cX11_broke 61 = .ok (.iload 4, 2) := by decide +kernel
theorem dX11_broke_63 : decode cX11_broke 63 = .ok (.goto 4, 3) := by decide +kernel
theorem dX11_broke_67 : decode cX11_broke 67 = .ok (.istore 8, 2) := by decide +kernel
theorem dX11_broke_69 : decode cX11_broke 69 = .ok (.iconst 0, 1) := by decide +kernel
theorem dX11_broke_70 : decode cX11_broke 70 = .ok (.istore 9, 2) := by decide +kernel
theorem dX11_broke_72 : decode cX11_broke 72 = .ok (.iload 9, 2) := by decide +kernel
theorem dX11_broke_74 : decode cX11_broke 74 = .ok (.aload 5, 2) := by decide +kernel
theorem dX11_broke_76 : decode cX11_broke 76 = .ok (.getfield 67, 3) := by decide +kernel
theorem dX11_broke_79 : decode cX11_broke 79 = .ok (.if_icmp .ge 50, 3) := by decide +kernel
theorem dX11_broke_82 : decode cX11_broke 82 = .ok (.aload 5, 2) := by decide +kernel
theorem dX11_broke_84 : decode cX11_broke 84 = .ok (.iload 9, 2) := by decide +kernel
theorem dX11_broke_86 : decode cX11_broke 86 = .ok (.iload_n 1, 1) := by decide +kernel
theorem dX11_broke_87 : decode cX11_broke 87 = .ok (.iload_n 2, 1) := by decide +kernel
theorem dX11_broke_88 : decode cX11_broke 88 = .ok (.aload_n 0, 1) := by decide +kernel
theorem dX11_broke_89 : decode cX11_broke 89 = .ok (.getfield 12, 3) := by decide +kernel
theorem dX11_broke_92 : decode cX11_broke 92 = .ok (.getfield 98, 3) := by decide +kernel
theorem dX11_broke_95 : decode cX11_broke 95 = .ok (.getfield 282, 3) := by decide +kernel
theorem dX11_broke_98 : decode cX11_broke 98 = .ok (.invokevirtual 291, 3) := by decide +kernel
theorem dX4_maySell_0 : decode cX4_maySell 0 = .ok (.iload_n 1, 1) := by decide +kernel
theorem dX4_maySell_1 : decode cX4_maySell 1 = .ok (.iload_n 2, 1) := by decide +kernel
theorem dX4_maySell_2 : decode cX4_maySell 2 = .ok (.if_icmp .eq 36, 3) := by decide +kernel
theorem dX4_maySell_38 : decode cX4_maySell 38 = .ok (.iconst 0, 1) := by decide +kernel
theorem dX4_maySell_5 : decode cX4_maySell 5 = .ok (.aload_n 0, 1) := by decide +kernel
theorem dX4_maySell_6 : decode cX4_maySell 6 = .ok (.iload_n 1, 1) := by decide +kernel
theorem dX4_maySell_7 : decode cX4_maySell 7 = .ok (.invokevirtual 54, 3) := by decide +kernel
theorem dX4_isAbout_0 : decode cX4_isAbout 0 = .ok (.aload_n 0, 1) := by decide +kernel
theorem dX4_isAbout_1 : decode cX4_isAbout 1 = .ok (.getfield 27, 3) := by decide +kernel
theorem dX4_isAbout_4 : decode cX4_isAbout 4 = .ok (.iload_n 1, 1) := by decide +kernel
theorem dX4_isAbout_5 : decode cX4_isAbout 5 = .ok (.iaload, 1) := by decide +kernel
theorem dX4_isAbout_6 : decode cX4_isAbout 6 = .ok (.ifCond .eq 13, 3) := by decide +kernel
theorem dX4_isAbout_19 : decode cX4_isAbout 19 = .ok (.iconst 1, 1) := by decide +kernel
theorem dX4_isAbout_20 : decode cX4_isAbout 20 = .ok (.goto 4, 3) := by decide +kernel
theorem dX4_isAbout_9 : decode cX4_isAbout 9 = .ok (.aload_n 0, 1) := by decide +kernel
theorem dX4_isAbout_10 : decode cX4_isAbout 10 = .ok (.getfield 27, 3) := by decide +kernel
theorem dX4_isAbout_13 : decode cX4_isAbout 13 = .ok (.iload_n 1, 1) := by decide +kernel
theorem dX4_isAbout_14 : decode cX4_isAbout 14 = .ok (.iaload, 1) := by decide +kernel
theorem dX4_isAbout_15 : decode cX4_isAbout 15 = .ok (.iconst 1, 1) := by decide +kernel
theorem dX4_isAbout_16 : decode cX4_isAbout 16 = .ok (.if_icmp .ne 7, 3) := by decide +kernel
theorem dX4_isAbout_23 : decode cX4_isAbout 23 = .ok (.iconst 0, 1) := by decide +kernel
theorem dX4_isAbout_24 : decode cX4_isAbout 24 = .ok (.ireturn, 1) := by decide +kernel
theorem dX4_maySell_10 : decode cX4_maySell 10 = .ok (.ifCond .eq 28, 3) := by decide +kernel
theorem dX4_maySell_13 : decode cX4_maySell 13 = .ok (.aload_n 0, 1) := by decide +kernel
theorem dX4_maySell_14 : decode cX4_maySell 14 = .ok (.getfield 15, 3) := by decide +kernel
theorem dX4_maySell_17 : decode cX4_maySell 17 = .ok (.iload_n 1, 1) := by decide +kernel
theorem dX4_maySell_18 : decode cX4_maySell 18 = .ok (.iaload, 1) := by decide +kernel
theorem dX4_maySell_19 : decode cX4_maySell 19 = .ok (.iload_n 3, 1) := by decide +kernel
theorem dX4_maySell_20 : decode cX4_maySell 20 = .ok (.if_icmp .lt 18, 3) := by decide +kernel
theorem dX4_maySell_23 : decode cX4_maySell 23 = .ok (.aload_n 0, 1) := by decide +kernel
theorem dX4_maySell_24 : decode cX4_maySell 24 = .ok (.iload_n 1, 1) := by decide +kernel
theorem dX4_maySell_25 : decode cX4_maySell 25 = .ok (.iload_n 2, 1) := by decide +kernel
theorem dX4_maySell_26 : decode cX4_maySell 26 = .ok (.iload 4, 2) := by decide +kernel
theorem dX4_maySell_28 : decode cX4_maySell 28 = .ok (.invokevirtual 57, 3) := by decide +kernel
theorem dX4_keepsBan_0 : decode cX4_keepsBan 0 = .ok (.aload_n 0, 1) := by decide +kernel
theorem dX4_keepsBan_1 : decode cX4_keepsBan 1 = .ok (.getfield 9, 3) := by decide +kernel
theorem dX4_keepsBan_4 : decode cX4_keepsBan 4 = .ok (.iload_n 1, 1) := by decide +kernel
theorem dX4_keepsBan_5 : decode cX4_keepsBan 5 = .ok (.iaload, 1) := by decide +kernel
theorem dX4_keepsBan_6 : decode cX4_keepsBan 6 = .ok (.aload_n 0, 1) := by decide +kernel
theorem dX4_keepsBan_7 : decode cX4_keepsBan 7 = .ok (.getfield 9, 3) := by decide +kernel
theorem dX4_keepsBan_10 : decode cX4_keepsBan 10 = .ok (.iload_n 2, 1) := by decide +kernel
theorem dX4_keepsBan_11 : decode cX4_keepsBan 11 = .ok (.iaload, 1) := by decide +kernel
theorem dX4_keepsBan_12 : decode cX4_keepsBan 12 = .ok (.if_icmp .ne 5, 3) := by decide +kernel
theorem dX4_keepsBan_17 : decode cX4_keepsBan 17 = .ok (.iload_n 1, 1) := by decide +kernel
theorem dX4_keepsBan_18 : decode cX4_keepsBan 18 = .ok (.istore 4, 2) := by decide +kernel
theorem dX4_keepsBan_20 : decode cX4_keepsBan 20 = .ok (.iconst 0, 1) := by decide +kernel
theorem dX4_keepsBan_21 : decode cX4_keepsBan 21 = .ok (.istore 5, 2) := by decide +kernel
theorem dX4_keepsBan_23 : decode cX4_keepsBan 23 = .ok (.iload 5, 2) := by decide +kernel
theorem dX4_keepsBan_25 : decode cX4_keepsBan 25 = .ok (.bipush 40, 2) := by decide +kernel
theorem dX4_keepsBan_27 : decode cX4_keepsBan 27 = .ok (.if_icmp .gt 40, 3) := by decide +kernel
theorem dX4_keepsBan_30 : decode cX4_keepsBan 30 = .ok (.aload_n 0, 1) := by decide +kernel
theorem dX4_keepsBan_31 : decode cX4_keepsBan 31 = .ok (.iload 4, 2) := by decide +kernel
theorem dX4_keepsBan_33 : decode cX4_keepsBan 33 = .ok (.invokevirtual 50, 3) := by decide +kernel
theorem dX4_keepsBan_36 : decode cX4_keepsBan 36 = .ok (.ifCond .eq 31, 3) := by decide +kernel
theorem dX4_keepsBan_39 : decode cX4_keepsBan 39 = .ok (.aload_n 0, 1) := by decide +kernel
theorem dX4_keepsBan_40 : decode cX4_keepsBan 40 = .ok (.getfield 18, 3) := by decide +kernel
theorem dX4_keepsBan_43 : decode cX4_keepsBan 43 = .ok (.iload 4, 2) := by decide +kernel
theorem dX4_keepsBan_45 : decode cX4_keepsBan 45 = .ok (.iaload, 1) := by decide +kernel
theorem dX4_keepsBan_46 : decode cX4_keepsBan 46 = .ok (.iload_n 3, 1) := by decide +kernel
theorem dX4_keepsBan_47 : decode cX4_keepsBan 47 = .ok (.if_icmp .lt 5, 3) := by decide +kernel
theorem dX4_keepsBan_52 : decode cX4_keepsBan 52 = .ok (.aload_n 0, 1) := by decide +kernel
theorem dX4_keepsBan_53 : decode cX4_keepsBan 53 = .ok (.getfield 21, 3) := by decide +kernel
theorem dX4_keepsBan_56 : decode cX4_keepsBan 56 = .ok (.iload 4, 2) := by decide +kernel
theorem dX4_keepsBan_58 : decode cX4_keepsBan 58 = .ok (.iaload, 1) := by decide +kernel
theorem dX4_keepsBan_59 : decode cX4_keepsBan 59 = .ok (.istore 4, 2) := by decide +kernel
theorem dX4_keepsBan_61 : decode cX4_keepsBan 61 = .ok (.iinc 5 1, 3) := by decide +kernel
theorem dX4_keepsBan_64 : decode cX4_keepsBan 64 = .ok (.goto (-41), 3) := by decide +kernel
theorem dX4_keepsBan_50 : decode cX4_keepsBan 50 = .ok (.iconst 1, 1) := by decide +kernel
theorem dX4_keepsBan_51 : decode cX4_keepsBan 51 = .ok (.ireturn, 1) := by decide +kernel
theorem dX4_keepsBan_67 : decode cX4_keepsBan 67 = .ok (.iconst 0, 1) := by decide +kernel
theorem dX4_keepsBan_68 : decode cX4_keepsBan 68 = .ok (.ireturn, 1) := by decide +kernel
theorem dX4_keepsBan_15 : decode cX4_keepsBan 15 = .ok (.iconst 0, 1) := by decide +kernel
theorem dX4_keepsBan_16 : decode cX4_keepsBan 16 = .ok (.ireturn, 1) := by decide +kernel
theorem dX4_maySell_31 : decode cX4_maySell 31 = .ok (.ifCond .ne 7, 3) := by decide +kernel
theorem dX4_maySell_34 : decode cX4_maySell 34 = .ok (.iconst 1, 1) := by decide +kernel
theorem dX4_maySell_35 : decode cX4_maySell 35 = .ok (.goto 4, 3) := by decide +kernel
theorem dX4_maySell_39 : decode cX4_maySell 39 = .ok (.ireturn, 1) := by decide +kernel
theorem dX11_broke_101 : decode cX11_broke 101 = .ok (.ifCond .eq 22, 3) := by decide +kernel
theorem dX11_broke_104 : decode cX11_broke 104 = .ok (.iload 6, 2) := by decide +kernel
theorem dX11_broke_106 : decode cX11_broke 106 = .ok (.iload 8, 2) := by decide +kernel
theorem dX11_broke_108 : decode cX11_broke 108 = .ok (.if_icmp .ne 8, 3) := by decide +kernel
theorem dX11_broke_116 : decode cX11_broke 116 = .ok (.iload 7, 2) := by decide +kernel
theorem dX11_broke_111 : decode cX11_broke 111 = .ok (.iload 9, 2) := by decide +kernel
theorem dX11_broke_113 : decode cX11_broke 113 = .ok (.goto 5, 3) := by decide +kernel
theorem dX11_broke_118 : decode cX11_broke 118 = .ok (.istore 7, 2) := by decide +kernel
theorem dX11_broke_120 : decode cX11_broke 120 = .ok (.iinc 6 1, 3) := by decide +kernel
theorem dX11_broke_123 : decode cX11_broke 123 = .ok (.iinc 9 1, 3) := by decide +kernel
theorem dX11_broke_126 : decode cX11_broke 126 = .ok (.goto (-54), 3) := by decide +kernel
theorem dX11_broke_129 : decode cX11_broke 129 = .ok (.iload_n 3, 1) := by decide +kernel
theorem dX11_broke_130 : decode cX11_broke 130 = .ok (.iconst 1, 1) := by decide +kernel
theorem dX11_broke_131 : decode cX11_broke 131 = .ok (.if_icmp .ne 6, 3) := by decide +kernel
theorem dX11_broke_137 : decode cX11_broke 137 = .ok (.iload_n 3, 1) := by decide +kernel
theorem dX11_broke_138 : decode cX11_broke 138 = .ok (.ifCond .ne 13, 3) := by decide +kernel
theorem dX11_broke_151 : decode cX11_broke 151 = .ok (.iload 7, 2) := by decide +kernel
theorem dX11_broke_141 : decode cX11_broke 141 = .ok (.iload 6, 2) := by decide +kernel
theorem dX11_broke_143 : decode cX11_broke 143 = .ok (.iconst 1, 1) := by decide +kernel
theorem dX11_broke_144 : decode cX11_broke 144 = .ok (.if_icmp .eq 7, 3) := by decide +kernel
theorem dX11_broke_147 : decode cX11_broke 147 = .ok (.iconst (-1), 1) := by decide +kernel
theorem dX11_broke_148 : decode cX11_broke 148 = .ok (.goto 5, 3) := by decide +kernel
theorem dX11_broke_153 : decode cX11_broke 153 = .ok (.ireturn, 1) := by decide +kernel
theorem dX11_broke_134 : decode cX11_broke 134 = .ok (.iload 6, 2) := by decide +kernel
theorem dX11_broke_136 : decode cX11_broke 136 = .ok (.ireturn, 1) := by decide +kernel
theorem dX11_canChoose_0 : decode cX11_canChoose 0 = .ok (.aload_n 0, 1) := by decide +kernel
theorem dX11_canChoose_1 : decode cX11_canChoose 1 = .ok (.iload_n 1, 1) := by decide +kernel
theorem dX11_canChoose_2 : decode cX11_canChoose 2 = .ok (.invokevirtual 273, 3) := by decide +kernel
theorem dX11_canChoose_5 : decode cX11_canChoose 5 = .ok (.ifCond .eq 10, 3) := by decide +kernel
theorem dX11_canChoose_15 : decode cX11_canChoose 15 = .ok (.iconst 0, 1) := by decide +kernel
theorem dX11_canChoose_16 : decode cX11_canChoose 16 = .ok (.ireturn, 1) := by decide +kernel
theorem dX11_canChoose_8 : decode cX11_canChoose 8 = .ok (.aload_n 0, 1) := by decide +kernel
theorem dX11_canChoose_9 : decode cX11_canChoose 9 = .ok (.getfield 312, 3) := by decide +kernel
theorem dX11_canChoose_12 : decode cX11_canChoose 12 = .ok (.ifCond .ne 5, 3) := by decide +kernel
theorem dX11_canChoose_17 : decode cX11_canChoose 17 = .ok (.iconst 0, 1) := by decide +kernel
theorem dX11_canChoose_18 : decode cX11_canChoose 18 = .ok (.istore_n 2, 1) := by decide +kernel
theorem dX11_canChoose_19 : decode cX11_canChoose 19 = .ok (.iload_n 2, 1) := by decide +kernel
theorem dX11_canChoose_20 : decode cX11_canChoose 20 = .ok (.aload_n 0, 1) := by decide +kernel
theorem dX11_canChoose_21 : decode cX11_canChoose 21 = .ok (.getfield 309, 3) := by decide +kernel
theorem dX11_canChoose_24 : decode cX11_canChoose 24 = .ok (.if_icmp .ge 30, 3) := by decide +kernel
theorem dX11_canChoose_27 : decode cX11_canChoose 27 = .ok (.aload_n 0, 1) := by decide +kernel
theorem dX11_canChoose_28 : decode cX11_canChoose 28 = .ok (.getfield 12, 3) := by decide +kernel
theorem dX11_canChoose_31 : decode cX11_canChoose 31 = .ok (.getfield 114, 3) := by decide +kernel
theorem dX11_canChoose_34 : decode cX11_canChoose 34 = .ok (.aload_n 0, 1) := by decide +kernel
theorem dX11_canChoose_35 : decode cX11_canChoose 35 = .ok (.getfield 41, 3) := by decide +kernel
theorem dX11_canChoose_38 : decode cX11_canChoose 38 = .ok (.iload_n 2, 1) := by decide +kernel
theorem dX11_canChoose_39 : decode cX11_canChoose 39 = .ok (.iaload, 1) := by decide +kernel
theorem dX11_canChoose_40 : decode cX11_canChoose 40 = .ok (.invokevirtual 150, 3) := by decide +kernel
theorem dX11_canChoose_43 : decode cX11_canChoose 43 = .ok (.ifCond .ne 5, 3) := by decide +kernel
theorem dX11_canChoose_48 : decode cX11_canChoose 48 = .ok (.iinc 2 1, 3) := by decide +kernel
theorem dX11_canChoose_51 : decode cX11_canChoose 51 = .ok (.goto (-32), 3) := by decide +kernel
theorem dX11_canChoose_46 : decode cX11_canChoose 46 = .ok (.iconst 0, 1) := by decide +kernel
theorem dX11_canChoose_47 : decode cX11_canChoose 47 = .ok (.ireturn, 1) := by decide +kernel
theorem dX11_canChoose_54 : decode cX11_canChoose 54 = .ok (.iconst 1, 1) := by decide +kernel
theorem dX11_canChoose_55 : decode cX11_canChoose 55 = .ok (.ireturn, 1) := by decide +kernel
theorem dX11_choose_0 : decode cX11_choose 0 = .ok (.aload_n 0, 1) := by decide +kernel
theorem dX11_choose_1 : decode cX11_choose 1 = .ok (.iload_n 1, 1) := by decide +kernel
theorem dX11_choose_2 : decode cX11_choose 2 = .ok (.invokevirtual 315, 3) := by decide +kernel
theorem dX11_choose_5 : decode cX11_choose 5 = .ok (.ifCond .ne 5, 3) := by decide +kernel
theorem dX11_choose_10 : decode cX11_choose 10 = .ok (.bipush 41, 2) := by decide +kernel
theorem dX11_choose_12 : decode cX11_choose 12 = .ok (.istore_n 2, 1) := by decide +kernel
theorem dX11_choose_13 : decode cX11_choose 13 = .ok (.iconst 0, 1) := by decide +kernel
theorem dX11_choose_14 : decode cX11_choose 14 = .ok (.istore_n 3, 1) := by decide +kernel
theorem dX11_choose_15 : decode cX11_choose 15 = .ok (.iconst 0, 1) := by decide +kernel
theorem dX11_choose_16 : decode cX11_choose 16 = .ok (.istore 4, 2) := by decide +kernel
theorem dX11_choose_18 : decode cX11_choose 18 = .ok (.iload 4, 2) := by decide +kernel
theorem dX11_choose_20 : decode cX11_choose 20 = .ok (.aload_n 0, 1) := by decide +kernel
theorem dX11_choose_21 : decode cX11_choose 21 = .ok (.getfield 309, 3) := by decide +kernel
theorem dX11_choose_24 : decode cX11_choose 24 = .ok (.if_icmp .gt 80, 3) := by decide +kernel
theorem dX11_choose_27 : decode cX11_choose 27 = .ok (.iload_n 2, 1) := by decide +kernel
theorem dX11_choose_28 : decode cX11_choose 28 = .ok (.ifCond .le 76, 3) := by decide +kernel
theorem dX11_choose_31 : decode cX11_choose 31 = .ok (.iconst 0, 1) := by decide +kernel
theorem dX11_choose_32 : decode cX11_choose 32 = .ok (.istore 5, 2) := by decide +kernel
theorem dX11_choose_34 : decode cX11_choose 34 = .ok (.iload 5, 2) := by decide +kernel
theorem dX11_choose_36 : decode cX11_choose 36 = .ok (.iconst 1, 1) := by decide +kernel
theorem dX11_choose_37 : decode cX11_choose 37 = .ok (.aload_n 0, 1) := by decide +kernel
theorem dX11_choose_38 : decode cX11_choose 38 = .ok (.getfield 309, 3) := by decide +kernel
theorem dX11_choose_41 : decode cX11_choose 41 = .ok (.ishl, 1) := by decide +kernel
theorem dX11_choose_42 : decode cX11_choose 42 = .ok (.if_icmp .ge 56, 3) := by decide +kernel
theorem dX11_choose_45 : decode cX11_choose 45 = .ok (.iload_n 2, 1) := by decide +kernel
theorem dX11_choose_46 : decode cX11_choose 46 = .ok (.ifCond .le 52, 3) := by decide +kernel
theorem dX11_choose_49 : decode cX11_choose 49 = .ok (.iload 5, 2) := by decide +kernel
theorem dX11_choose_51 : decode cX11_choose 51 = .ok (.invokestatic 318, 3) := by decide +kernel
theorem dX11_choose_54 : decode cX11_choose 54 = .ok (.iload 4, 2) := by decide +kernel
theorem dX11_choose_56 : decode cX11_choose 56 = .ok (.if_icmp .eq 6, 3) := by decide +kernel
theorem dX11_choose_62 : decode cX11_choose 62 = .ok (.aload_n 0, 1) := by decide +kernel
theorem dX11_choose_63 : decode cX11_choose 63 = .ok (.iload 5, 2) := by decide +kernel
theorem dX11_choose_65 : decode cX11_choose 65 = .ok (.invokevirtual 323, 3) := by decide +kernel
theorem dX11_choose_68 : decode cX11_choose 68 = .ok (.istore 6, 2) := by decide +kernel
theorem dX11_choose_70 : decode cX11_choose 70 = .ok (.aload_n 0, 1) := by decide +kernel
theorem dX11_choose_71 : decode cX11_choose 71 = .ok (.iload 6, 2) := by decide +kernel
theorem dX11_choose_73 : decode cX11_choose 73 = .ok (.iload_n 1, 1) := by decide +kernel
theorem dX11_choose_74 : decode cX11_choose 74 = .ok (.iload_n 2, 1) := by decide +kernel
theorem dX11_choose_75 : decode cX11_choose 75 = .ok (.invokevirtual 326, 3) := by decide +kernel
theorem dX11_worstOf_0 : decode cX11_worstOf 0 = .ok (.iconst 0, 1) := by decide +kernel
theorem dX11_worstOf_1 : decode cX11_worstOf 1 = .ok (.istore 4, 2) := by decide +kernel
theorem dX11_worstOf_3 : decode cX11_worstOf 3 = .ok (.iconst 0, 1) := by decide +kernel
theorem dX11_worstOf_4 : decode cX11_worstOf 4 = .ok (.istore 5, 2) := by decide +kernel
theorem dX11_worstOf_6 : decode cX11_worstOf 6 = .ok (.iload 5, 2) := by decide +kernel
theorem dX11_worstOf_8 : decode cX11_worstOf 8 = .ok (.aload_n 0, 1) := by decide +kernel
theorem dX11_worstOf_9 : decode cX11_worstOf 9 = .ok (.getfield 312, 3) := by decide +kernel
theorem dX11_worstOf_12 : decode cX11_worstOf 12 = .ok (.if_icmp .ge 133, 3) := by decide +kernel
theorem dX11_worstOf_15 : decode cX11_worstOf 15 = .ok (.iload 4, 2) := by decide +kernel
theorem dX11_worstOf_17 : decode cX11_worstOf 17 = .ok (.iload_n 3, 1) := by decide +kernel
theorem dX11_worstOf_18 : decode cX11_worstOf 18 = .ok (.if_icmp .ge 127, 3) := by decide +kernel
theorem dX11_worstOf_21 : decode cX11_worstOf 21 = .ok (.aload_n 0, 1) := by decide +kernel
theorem dX11_worstOf_22 : decode cX11_worstOf 22 = .ok (.getfield 18, 3) := by decide +kernel
theorem dX11_worstOf_25 : decode cX11_worstOf 25 = .ok (.aload_n 0, 1) := by decide +kernel
theorem dX11_worstOf_26 : decode cX11_worstOf 26 = .ok (.getfield 12, 3) := by decide +kernel
theorem dX11_worstOf_29 : decode cX11_worstOf 29 = .ok (.invokevirtual 345, 3) := by decide +kernel
theorem dX11_worstOf_32 : decode cX11_worstOf 32 = .ok (.aload_n 0, 1) := by decide +kernel
theorem dX11_worstOf_33 : decode cX11_worstOf 33 = .ok (.getfield 18, 3) := by decide +kernel
theorem dX11_worstOf_36 : decode cX11_worstOf 36 = .ok (.aload_n 0, 1) := by decide +kernel
theorem dX11_worstOf_37 : decode cX11_worstOf 37 = .ok (.getfield 45, 3) := by decide +kernel
theorem dX11_worstOf_40 : decode cX11_worstOf 40 = .ok (.iload 5, 2) := by decide +kernel
theorem dX11_worstOf_42 : decode cX11_worstOf 42 = .ok (.iaload, 1) := by decide +kernel
theorem dX11_worstOf_43 : decode cX11_worstOf 43 = .ok (.aload_n 0, 1) := by decide +kernel
theorem dX11_worstOf_44 : decode cX11_worstOf 44 = .ok (.getfield 48, 3) := by decide +kernel
theorem dX11_worstOf_47 : decode cX11_worstOf 47 = .ok (.iload 5, 2) := by decide +kernel
theorem dX11_worstOf_49 : decode cX11_worstOf 49 = .ok (.iaload, 1) := by decide +kernel
theorem dX11_worstOf_50 : decode cX11_worstOf 50 = .ok (.invokevirtual 383, 3) := by decide +kernel
theorem dX11_worstOf_53 : decode cX11_worstOf 53 = .ok (.iconst 0, 1) := by decide +kernel
theorem dX11_worstOf_54 : decode cX11_worstOf 54 = .ok (.istore 6, 2) := by decide +kernel
theorem dX11_worstOf_56 : decode cX11_worstOf 56 = .ok (.iload 6, 2) := by decide +kernel
theorem dX11_worstOf_58 : decode cX11_worstOf 58 = .ok (.aload_n 0, 1) := by decide +kernel
theorem dX11_worstOf_59 : decode cX11_worstOf 59 = .ok (.getfield 309, 3) := by decide +kernel
theorem dX11_worstOf_62 : decode cX11_worstOf 62 = .ok (.if_icmp .ge 30, 3) := by decide +kernel
theorem dX11_worstOf_65 : decode cX11_worstOf 65 = .ok (.aload_n 0, 1) := by decide +kernel
theorem dX11_worstOf_66 : decode cX11_worstOf 66 = .ok (.getfield 18, 3) := by decide +kernel
theorem dX11_worstOf_69 : decode cX11_worstOf 69 = .ok (.getfield 386, 3) := by decide +kernel
theorem dX11_worstOf_72 : decode cX11_worstOf 72 = .ok (.aload_n 0, 1) := by decide +kernel
theorem dX11_worstOf_73 : decode cX11_worstOf 73 = .ok (.getfield 41, 3) := by decide +kernel
theorem dX11_worstOf_76 : decode cX11_worstOf 76 = .ok (.iload 6, 2) := by decide +kernel
theorem dX11_worstOf_78 : decode cX11_worstOf 78 = .ok (.iaload, 1) := by decide +kernel
theorem dX11_worstOf_79 : decode cX11_worstOf 79 = .ok (.iload_n 1, 1) := by decide +kernel
theorem dX11_worstOf_80 : decode cX11_worstOf 80 = .ok (.iload 6, 2) := by decide +kernel
theorem dX11_worstOf_82 : decode cX11_worstOf 82 = .ok (.ishr, 1) := by decide +kernel
theorem dX11_worstOf_83 : decode cX11_worstOf 83 = .ok (.iconst 1, 1) := by decide +kernel
theorem dX11_worstOf_84 : decode cX11_worstOf 84 = .ok (.iand, 1) := by decide +kernel
theorem dX11_worstOf_85 : decode cX11_worstOf 85 = .ok (.iastore, 1) := by decide +kernel
theorem dX11_worstOf_86 : decode cX11_worstOf 86 = .ok (.iinc 6 1, 3) := by decide +kernel
theorem dX11_worstOf_89 : decode cX11_worstOf 89 = .ok (.goto (-33), 3) := by decide +kernel
theorem dX11_worstOf_92 : decode cX11_worstOf 92 = .ok (.iconst 0, 1) := by decide +kernel
theorem dX11_worstOf_93 : decode cX11_worstOf 93 = .ok (.istore 6, 2) := by decide +kernel
theorem dX11_worstOf_95 : decode cX11_worstOf 95 = .ok (.iload 6, 2) := by decide +kernel
theorem dX11_worstOf_97 : decode cX11_worstOf 97 = .ok (.iload_n 2, 1) := by decide +kernel
theorem dX11_worstOf_98 : decode cX11_worstOf 98 = .ok (.if_icmp .ge 27, 3) := by decide +kernel
theorem dX11_worstOf_101 : decode cX11_worstOf 101 = .ok (.aload_n 0, 1) := by decide +kernel
theorem dX11_worstOf_102 : decode cX11_worstOf 102 = .ok (.getfield 18, 3) := by decide +kernel
theorem dX11_worstOf_105 : decode cX11_worstOf 105 = .ok (.getfield 389, 3) := by decide +kernel
theorem dX11_worstOf_108 : decode cX11_worstOf 108 = .ok (.iload_n 3, 1) := by decide +kernel
theorem dX11_worstOf_109 : decode cX11_worstOf 109 = .ok (.if_icmp .ge 16, 3) := by decide +kernel
theorem dX11_worstOf_112 : decode cX11_worstOf 112 = .ok (.aload_n 0, 1) := by decide +kernel
theorem dX11_worstOf_113 : decode cX11_worstOf 113 = .ok (.getfield 18, 3) := by decide +kernel
theorem dX11_worstOf_116 : decode cX11_worstOf 116 = .ok (.invokevirtual 276, 3) := by decide +kernel
theorem dX11_worstOf_119 : decode cX11_worstOf 119 = .ok (.iinc 6 1, 3) := by decide +kernel
theorem dX11_worstOf_122 : decode cX11_worstOf 122 = .ok (.goto (-27), 3) := by decide +kernel
theorem dX11_worstOf_125 : decode cX11_worstOf 125 = .ok (.iload 4, 2) := by decide +kernel
theorem dX11_worstOf_127 : decode cX11_worstOf 127 = .ok (.aload_n 0, 1) := by decide +kernel
theorem dX11_worstOf_128 : decode cX11_worstOf 128 = .ok (.getfield 18, 3) := by decide +kernel
theorem dX11_worstOf_131 : decode cX11_worstOf 131 = .ok (.getfield 389, 3) := by decide +kernel
theorem dX11_worstOf_134 : decode cX11_worstOf 134 = .ok (.invokestatic 392, 3) := by decide +kernel
theorem dX11_worstOf_137 : decode cX11_worstOf 137 = .ok (.istore 4, 2) := by decide +kernel
theorem dX11_worstOf_139 : decode cX11_worstOf 139 = .ok (.iinc 5 1, 3) := by decide +kernel
theorem dX11_worstOf_142 : decode cX11_worstOf 142 = .ok (.goto (-136), 3) := by decide +kernel
theorem dX11_worstOf_145 : decode cX11_worstOf 145 = .ok (.iload 4, 2) := by decide +kernel
theorem dX11_worstOf_147 : decode cX11_worstOf 147 = .ok (.ireturn, 1) := by decide +kernel
theorem dX11_choose_78 : decode cX11_choose 78 = .ok (.istore 7, 2) := by decide +kernel
theorem dX11_choose_80 : decode cX11_choose 80 = .ok (.iload 7, 2) := by decide +kernel
theorem dX11_choose_82 : decode cX11_choose 82 = .ok (.iload_n 2, 1) := by decide +kernel
theorem dX11_choose_83 : decode cX11_choose 83 = .ok (.if_icmp .ge 9, 3) := by decide +kernel
theorem dX11_choose_86 : decode cX11_choose 86 = .ok (.iload 7, 2) := by decide +kernel
theorem dX11_choose_88 : decode cX11_choose 88 = .ok (.istore_n 2, 1) := by decide +kernel
theorem dX11_choose_89 : decode cX11_choose 89 = .ok (.iload 6, 2) := by decide +kernel
theorem dX11_choose_91 : decode cX11_choose 91 = .ok (.istore_n 3, 1) := by decide +kernel
theorem dX11_choose_59 : decode cX11_choose 59 = .ok (.goto 33, 3) := by decide +kernel
theorem dX11_choose_92 : decode cX11_choose 92 = .ok (.iinc 5 1, 3) := by decide +kernel
theorem dX11_choose_95 : decode cX11_choose 95 = .ok (.goto (-61), 3) := by decide +kernel
theorem dX11_choose_98 : decode cX11_choose 98 = .ok (.iinc 4 1, 3) := by decide +kernel
theorem dX11_choose_101 : decode cX11_choose 101 = .ok (.goto (-83), 3) := by decide +kernel
theorem dX11_choose_104 : decode cX11_choose 104 = .ok (.iconst 0, 1) := by decide +kernel
theorem dX11_choose_105 : decode cX11_choose 105 = .ok (.istore 4, 2) := by decide +kernel
theorem dX11_choose_107 : decode cX11_choose 107 = .ok (.iload 4, 2) := by decide +kernel
theorem dX11_choose_109 : decode cX11_choose 109 = .ok (.aload_n 0, 1) := by decide +kernel
theorem dX11_choose_110 : decode cX11_choose 110 = .ok (.getfield 309, 3) := by decide +kernel
theorem dX11_choose_113 : decode cX11_choose 113 = .ok (.if_icmp .ge 22, 3) := by decide +kernel
theorem dX11_choose_116 : decode cX11_choose 116 = .ok (.aload_n 0, 1) := by decide +kernel
theorem dX11_choose_117 : decode cX11_choose 117 = .ok (.getfield 51, 3) := by decide +kernel
theorem dX11_choose_120 : decode cX11_choose 120 = .ok (.iload 4, 2) := by decide +kernel
theorem dX11_choose_122 : decode cX11_choose 122 = .ok (.iload_n 3, 1) := by decide +kernel
theorem dX11_choose_123 : decode cX11_choose 123 = .ok (.iload 4, 2) := by decide +kernel
theorem dX11_choose_125 : decode cX11_choose 125 = .ok (.ishr, 1) := by decide +kernel
theorem dX11_choose_126 : decode cX11_choose 126 = .ok (.iconst 1, 1) := by decide +kernel
theorem dX11_choose_127 : decode cX11_choose 127 = .ok (.iand, 1) := by decide +kernel
theorem dX11_choose_128 : decode cX11_choose 128 = .ok (.iastore, 1) := by decide +kernel
theorem dX11_choose_129 : decode cX11_choose 129 = .ok (.iinc 4 1, 3) := by decide +kernel
theorem dX11_choose_132 : decode cX11_choose 132 = .ok (.goto (-25), 3) := by decide +kernel
theorem dX11_choose_135 : decode cX11_choose 135 = .ok (.aload_n 0, 1) := by decide +kernel
theorem dX11_choose_136 : decode cX11_choose 136 = .ok (.aload_n 0, 1) := by decide +kernel
theorem dX11_choose_137 : decode cX11_choose 137 = .ok (.getfield 309, 3) := by decide +kernel
theorem dX11_choose_140 : decode cX11_choose 140 = .ok (.putfield 329, 3) := by decide +kernel
theorem dX11_choose_143 : decode cX11_choose 143 = .ok (.iload_n 2, 1) := by decide +kernel
theorem dX11_choose_144 : decode cX11_choose 144 = .ok (.ireturn, 1) := by decide +kernel
theorem dX11_choose_8 : decode cX11_choose 8 = .ok (.iconst (-1), 1) := by decide +kernel
theorem dX11_choose_9 : decode cX11_choose 9 = .ok (.ireturn, 1) := by decide +kernel
theorem dX11_chosen_0 : decode cX11_chosen 0 = .ok (.iload_n 1, 1) := by decide +kernel
theorem dX11_chosen_1 : decode cX11_chosen 1 = .ok (.iconst 0, 1) := by decide +kernel
theorem dX11_chosen_2 : decode cX11_chosen 2 = .ok (.aload_n 0, 1) := by decide +kernel
theorem dX11_chosen_3 : decode cX11_chosen 3 = .ok (.getfield 329, 3) := by decide +kernel
theorem dX11_chosen_6 : decode cX11_chosen 6 = .ok (.iconst 1, 1) := by decide +kernel
theorem dX11_chosen_7 : decode cX11_chosen 7 = .ok (.isub, 1) := by decide +kernel
theorem dX11_chosen_8 : decode cX11_chosen 8 = .ok (.invokestatic 54, 3) := by decide +kernel
theorem dX11_chosen_11 : decode cX11_chosen 11 = .ok (.ifCond .eq 12, 3) := by decide +kernel
theorem dX11_chosen_23 : decode cX11_chosen 23 = .ok (.iconst (-1), 1) := by decide +kernel
theorem dX11_chosen_14 : decode cX11_chosen 14 = .ok (.aload_n 0, 1) := by decide +kernel
theorem dX11_chosen_15 : decode cX11_chosen 15 = .ok (.getfield 51, 3) := by decide +kernel
theorem dX11_chosen_18 : decode cX11_chosen 18 = .ok (.iload_n 1, 1) := by decide +kernel
theorem dX11_chosen_19 : decode cX11_chosen 19 = .ok (.iaload, 1) := by decide +kernel
theorem dX11_chosen_20 : decode cX11_chosen 20 = .ok (.goto 4, 3) := by decide +kernel
theorem dX11_chosen_24 : decode cX11_chosen 24 = .ok (.ireturn, 1) := by decide +kernel
theorem dX11_clear_0 : decode cX11_clear 0 = .ok (.aload_n 0, 1) := by decide +kernel
theorem dX11_clear_1 : decode cX11_clear 1 = .ok (.getfield 309, 3) := by decide +kernel
theorem dX11_clear_4 : decode cX11_clear 4 = .ok (.istore_n 1, 1) := by decide +kernel
theorem dX11_clear_5 : decode cX11_clear 5 = .ok (.aload_n 0, 1) := by decide +kernel
theorem dX11_clear_6 : decode cX11_clear 6 = .ok (.iconst 0, 1) := by decide +kernel
theorem dX11_clear_7 : decode cX11_clear 7 = .ok (.putfield 309, 3) := by decide +kernel
theorem dX11_clear_10 : decode cX11_clear 10 = .ok (.aload_n 0, 1) := by decide +kernel
theorem dX11_clear_11 : decode cX11_clear 11 = .ok (.iconst 0, 1) := by decide +kernel
theorem dX11_clear_12 : decode cX11_clear 12 = .ok (.putfield 312, 3) := by decide +kernel
theorem dX11_clear_15 : decode cX11_clear 15 = .ok (.iload_n 1, 1) := by decide +kernel
theorem dX11_clear_16 : decode cX11_clear 16 = .ok (.ireturn, 1) := by decide +kernel
theorem dX11_coin_0 : decode cX11_coin 0 = .ok (.aload_n 0, 1) := by decide +kernel
theorem dX11_coin_1 : decode cX11_coin 1 = .ok (.getfield 12, 3) := by decide +kernel
theorem dX11_coin_4 : decode cX11_coin 4 = .ok (.getfield 63, 3) := by decide +kernel
theorem dX11_coin_7 : decode cX11_coin 7 = .ok (.astore_n 3, 1) := by decide +kernel
theorem dX11_coin_8 : decode cX11_coin 8 = .ok (.iload_n 2, 1) := by decide +kernel
theorem dX11_coin_9 : decode cX11_coin 9 = .ok (.iconst 0, 1) := by decide +kernel
theorem dX11_coin_10 : decode cX11_coin 10 = .ok (.ldc 58, 2) := by decide +kernel
theorem dX11_coin_12 : decode cX11_coin 12 = .ok (.invokestatic 54, 3) := by decide +kernel
theorem dX11_coin_15 : decode cX11_coin 15 = .ok (.ifCond .ne 9, 3) := by decide +kernel
theorem dX11_coin_24 : decode cX11_coin 24 = .ok (.aload_n 3, 1) := by decide +kernel
theorem dX11_coin_25 : decode cX11_coin 25 = .ok (.iload_n 1, 1) := by decide +kernel
theorem dX11_coin_26 : decode cX11_coin 26 = .ok (.invokevirtual 80, 3) := by decide +kernel
theorem dX11_coin_29 : decode cX11_coin 29 = .ok (.ifCond .ne 10, 3) := by decide +kernel
theorem dX11_coin_39 : decode cX11_coin 39 = .ok (.aload_n 3, 1) := by decide +kernel
theorem dX11_coin_40 : decode cX11_coin 40 = .ok (.iload_n 1, 1) := by decide +kernel
theorem dX11_coin_41 : decode cX11_coin 41 = .ok (.iload_n 2, 1) := by decide +kernel
theorem dX11_coin_42 : decode cX11_coin 42 = .ok (.invokevirtual 90, 3) := by decide +kernel
theorem dX11_coin_45 : decode cX11_coin 45 = .ok (.aload_n 0, 1) := by decide +kernel
theorem dX11_coin_46 : decode cX11_coin 46 = .ok (.aload_n 3, 1) := by decide +kernel
theorem dX11_coin_47 : decode cX11_coin 47 = .ok (.getfield 94, 3) := by decide +kernel
theorem dX11_coin_50 : decode cX11_coin 50 = .ok (.iload_n 1, 1) := by decide +kernel
theorem dX11_coin_51 : decode cX11_coin 51 = .ok (.iaload, 1) := by decide +kernel
theorem dX11_coin_52 : decode cX11_coin 52 = .ok (.invokevirtual 77, 3) := by decide +kernel
theorem dX11_coin_55 : decode cX11_coin 55 = .ok (.ireturn, 1) := by decide +kernel
theorem dX11_coin_32 : decode cX11_coin 32 = .ok (.aload_n 0, 1) := by decide +kernel
theorem dX11_coin_33 : decode cX11_coin 33 = .ok (.bipush (-2), 2) := by decide +kernel
theorem dX11_coin_35 : decode cX11_coin 35 = .ok (.invokevirtual 59, 3) := by decide +kernel
theorem dX11_coin_38 : decode cX11_coin 38 = .ok (.ireturn, 1) := by decide +kernel
theorem dX11_coin_18 : decode cX11_coin 18 = .ok (.aload_n 0, 1) := by decide +kernel
theorem dX11_coin_19 : decode cX11_coin 19 = .ok (.iconst (-1), 1) := by decide +kernel
theorem dX11_coin_20 : decode cX11_coin 20 = .ok (.invokevirtual 59, 3) := by decide +kernel
theorem dX11_coin_23 : decode cX11_coin 23 = .ok (.ireturn, 1) := by decide +kernel
theorem dX11_count_0 : decode cX11_count 0 = .ok (.iload_n 1, 1) := by decide +kernel
theorem dX11_count_1 : decode cX11_count 1 = .ok (.tableswitch 153 0 9 #[55, 63, 74, 85, 96, 107, 118, 129, 140, 145], 55) := by decide +kernel
theorem dX11_count_56 : decode cX11_count 56 = .ok (.aload_n 0, 1) := by decide +kernel
theorem dX11_count_57 : decode cX11_count 57 = .ok (.getfield 12, 3) := by decide +kernel
theorem dX11_count_60 : decode cX11_count 60 = .ok (.getfield 255, 3) := by decide +kernel
theorem dX11_count_63 : decode cX11_count 63 = .ok (.ireturn, 1) := by decide +kernel
theorem dX11_count_64 : decode cX11_count 64 = .ok (.aload_n 0, 1) := by decide +kernel
theorem dX11_count_65 : decode cX11_count 65 = .ok (.getfield 12, 3) := by decide +kernel
theorem dX11_count_68 : decode cX11_count 68 = .ok (.getfield 63, 3) := by decide +kernel
theorem dX11_count_71 : decode cX11_count 71 = .ok (.getfield 67, 3) := by decide +kernel
theorem dX11_count_74 : decode cX11_count 74 = .ok (.ireturn, 1) := by decide +kernel
theorem dX11_count_75 : decode cX11_count 75 = .ok (.aload_n 0, 1) := by decide +kernel
theorem dX11_count_76 : decode cX11_count 76 = .ok (.getfield 12, 3) := by decide +kernel
theorem dX11_count_79 : decode cX11_count 79 = .ok (.getfield 114, 3) := by decide +kernel
theorem dX11_count_82 : decode cX11_count 82 = .ok (.getfield 118, 3) := by decide +kernel
theorem dX11_count_85 : decode cX11_count 85 = .ok (.ireturn, 1) := by decide +kernel
theorem dX11_count_86 : decode cX11_count 86 = .ok (.aload_n 0, 1) := by decide +kernel
theorem dX11_count_87 : decode cX11_count 87 = .ok (.getfield 12, 3) := by decide +kernel
theorem dX11_count_90 : decode cX11_count 90 = .ok (.getfield 114, 3) := by decide +kernel
theorem dX11_count_93 : decode cX11_count 93 = .ok (.getfield 130, 3) := by decide +kernel
theorem dX11_count_96 : decode cX11_count 96 = .ok (.ireturn, 1) := by decide +kernel
theorem dX11_count_97 : decode cX11_count 97 = .ok (.aload_n 0, 1) := by decide +kernel
theorem dX11_count_98 : decode cX11_count 98 = .ok (.getfield 12, 3) := by decide +kernel
theorem dX11_count_101 : decode cX11_count 101 = .ok (.getfield 219, 3) := by decide +kernel
theorem dX11_count_104 : decode cX11_count 104 = .ok (.getfield 223, 3) := by decide +kernel
theorem dX11_count_107 : decode cX11_count 107 = .ok (.ireturn, 1) := by decide +kernel
theorem dX11_count_108 : decode cX11_count 108 = .ok (.aload_n 0, 1) := by decide +kernel
theorem dX11_count_109 : decode cX11_count 109 = .ok (.getfield 12, 3) := by decide +kernel
theorem dX11_count_112 : decode cX11_count 112 = .ok (.getfield 170, 3) := by decide +kernel
theorem dX11_count_115 : decode cX11_count 115 = .ok (.getfield 251, 3) := by decide +kernel
theorem dX11_count_118 : decode cX11_count 118 = .ok (.ireturn, 1) := by decide +kernel
theorem dX11_count_119 : decode cX11_count 119 = .ok (.aload_n 0, 1) := by decide +kernel
theorem dX11_count_120 : decode cX11_count 120 = .ok (.getfield 12, 3) := by decide +kernel
theorem dX11_count_123 : decode cX11_count 123 = .ok (.getfield 98, 3) := by decide +kernel
theorem dX11_count_126 : decode cX11_count 126 = .ok (.getfield 288, 3) := by decide +kernel
theorem dX11_count_129 : decode cX11_count 129 = .ok (.ireturn, 1) := by decide +kernel
theorem dX11_count_130 : decode cX11_count 130 = .ok (.aload_n 0, 1) := by decide +kernel
theorem dX11_count_131 : decode cX11_count 131 = .ok (.getfield 12, 3) := by decide +kernel
theorem dX11_count_134 : decode cX11_count 134 = .ok (.getfield 98, 3) := by decide +kernel
theorem dX11_count_137 : decode cX11_count 137 = .ok (.getfield 297, 3) := by decide +kernel
theorem dX11_count_140 : decode cX11_count 140 = .ok (.ireturn, 1) := by decide +kernel
theorem dX11_count_141 : decode cX11_count 141 = .ok (.aload_n 0, 1) := by decide +kernel
theorem dX11_count_142 : decode cX11_count 142 = .ok (.getfield 309, 3) := by decide +kernel
theorem dX11_count_145 : decode cX11_count 145 = .ok (.ireturn, 1) := by decide +kernel
theorem dX11_count_146 : decode cX11_count 146 = .ok (.aload_n 0, 1) := by decide +kernel
theorem dX11_count_147 : decode cX11_count 147 = .ok (.getfield 30, 3) := by decide +kernel
theorem dX11_count_150 : decode cX11_count 150 = .ok (.getfield 209, 3) := by decide +kernel
theorem dX11_count_153 : decode cX11_count 153 = .ok (.ireturn, 1) := by decide +kernel
theorem dX11_count_154 : decode cX11_count 154 = .ok (.iconst (-1), 1) := by decide +kernel
theorem dX11_count_155 : decode cX11_count 155 = .ok (.ireturn, 1) := by decide +kernel
theorem dX11_crop_0 : decode cX11_crop 0 = .ok (.aload_n 0, 1) := by decide +kernel
theorem dX11_crop_1 : decode cX11_crop 1 = .ok (.getfield 12, 3) := by decide +kernel
theorem dX11_crop_4 : decode cX11_crop 4 = .ok (.getfield 114, 3) := by decide +kernel
theorem dX11_crop_7 : decode cX11_crop 7 = .ok (.iload_n 1, 1) := by decide +kernel
theorem dX11_crop_8 : decode cX11_crop 8 = .ok (.invokevirtual 150, 3) := by decide +kernel
theorem dX11_crop_11 : decode cX11_crop 11 = .ok (.ifCond .eq 10, 3) := by decide +kernel
theorem dX11_crop_21 : decode cX11_crop 21 = .ok (.iconst (-1), 1) := by decide +kernel
theorem dX11_crop_22 : decode cX11_crop 22 = .ok (.ireturn, 1) := by decide +kernel
theorem dX11_crop_14 : decode cX11_crop 14 = .ok (.iload_n 2, 1) := by decide +kernel
theorem dX11_crop_15 : decode cX11_crop 15 = .ok (.invokestatic 191, 3) := by decide +kernel
theorem dX11_isWeek_0 : decode cX11_isWeek 0 = .ok (.iload_n 0, 1) := by decide +kernel
theorem dX11_isWeek_1 : decode cX11_isWeek 1 = .ok (.ifCond .lt 14, 3) := by decide +kernel
theorem dX11_isWeek_15 : decode cX11_isWeek 15 = .ok (.iconst 0, 1) := by decide +kernel
theorem dX11_isWeek_16 : decode cX11_isWeek 16 = .ok (.ireturn, 1) := by decide +kernel
theorem dX11_isWeek_4 : decode cX11_isWeek 4 = .ok (.iload_n 0, 1) := by decide +kernel
theorem dX11_isWeek_5 : decode cX11_isWeek 5 = .ok (.sipush 399, 3) := by decide +kernel
theorem dX11_isWeek_8 : decode cX11_isWeek 8 = .ok (.if_icmp .gt 7, 3) := by decide +kernel
theorem dX11_isWeek_11 : decode cX11_isWeek 11 = .ok (.iconst 1, 1) := by decide +kernel
theorem dX11_isWeek_12 : decode cX11_isWeek 12 = .ok (.goto 4, 3) := by decide +kernel
theorem dX11_crop_18 : decode cX11_crop 18 = .ok (.ifCond .ne 5, 3) := by decide +kernel
theorem dX11_crop_23 : decode cX11_crop 23 = .ok (.aload_n 0, 1) := by decide +kernel
theorem dX11_crop_24 : decode cX11_crop 24 = .ok (.getfield 12, 3) := by decide +kernel
theorem dX11_crop_27 : decode cX11_crop 27 = .ok (.getfield 194, 3) := by decide +kernel
theorem dX11_crop_30 : decode cX11_crop 30 = .ok (.iload_n 1, 1) := by decide +kernel
theorem dX11_crop_31 : decode cX11_crop 31 = .ok (.iload_n 2, 1) := by decide +kernel
theorem dX11_crop_32 : decode cX11_crop 32 = .ok (.invokevirtual 212, 3) := by decide +kernel
theorem dX11_crop_35 : decode cX11_crop 35 = .ok (.ireturn, 1) := by decide +kernel
theorem dX11_crops_0 : decode cX11_crops 0 = .ok (.iload_n 1, 1) := by decide +kernel
theorem dX11_crops_1 : decode cX11_crops 1 = .ok (.iconst 0, 1) := by decide +kernel
theorem dX11_crops_2 : decode cX11_crops 2 = .ok (.sipush 10000, 3) := by decide +kernel
theorem dX11_crops_5 : decode cX11_crops 5 = .ok (.invokestatic 54, 3) := by decide +kernel
theorem dX11_crops_8 : decode cX11_crops 8 = .ok (.ifCond .eq 14, 3) := by decide +kernel
theorem dX11_crops_22 : decode cX11_crops 22 = .ok (.aload_n 0, 1) := by decide +kernel
theorem dX11_crops_23 : decode cX11_crops 23 = .ok (.iconst (-1), 1) := by decide +kernel
theorem dX11_crops_24 : decode cX11_crops 24 = .ok (.invokevirtual 59, 3) := by decide +kernel
theorem dX11_crops_27 : decode cX11_crops 27 = .ok (.ireturn, 1) := by decide +kernel
theorem dX11_crops_11 : decode cX11_crops 11 = .ok (.iload_n 2, 1) := by decide +kernel
theorem dX11_crops_12 : decode cX11_crops 12 = .ok (.iconst 0, 1) := by decide +kernel
theorem dX11_crops_13 : decode cX11_crops 13 = .ok (.sipush 10000, 3) := by decide +kernel
theorem dX11_crops_16 : decode cX11_crops 16 = .ok (.invokestatic 54, 3) := by decide +kernel
theorem dX11_crops_19 : decode cX11_crops 19 = .ok (.ifCond .ne 9, 3) := by decide +kernel
theorem dX11_crops_28 : decode cX11_crops 28 = .ok (.aload_n 0, 1) := by decide +kernel
theorem dX11_crops_29 : decode cX11_crops 29 = .ok (.getfield 312, 3) := by decide +kernel
theorem dX11_crops_32 : decode cX11_crops 32 = .ok (.iconst 3, 1) := by decide +kernel
theorem dX11_crops_33 : decode cX11_crops 33 = .ok (.if_icmp .lt 10, 3) := by decide +kernel
theorem dX11_crops_43 : decode cX11_crops 43 = .ok (.aload_n 0, 1) := by decide +kernel
theorem dX11_crops_44 : decode cX11_crops 44 = .ok (.getfield 45, 3) := by decide +kernel
theorem dX11_crops_47 : decode cX11_crops 47 = .ok (.aload_n 0, 1) := by decide +kernel
theorem dX11_crops_48 : decode cX11_crops 48 = .ok (.getfield 312, 3) := by decide +kernel
theorem dX11_crops_51 : decode cX11_crops 51 = .ok (.iload_n 1, 1) := by decide +kernel
theorem dX11_crops_52 : decode cX11_crops 52 = .ok (.iastore, 1) := by decide +kernel
theorem dX11_crops_53 : decode cX11_crops 53 = .ok (.aload_n 0, 1) := by decide +kernel
theorem dX11_crops_54 : decode cX11_crops 54 = .ok (.getfield 48, 3) := by decide +kernel
theorem dX11_crops_57 : decode cX11_crops 57 = .ok (.aload_n 0, 1) := by decide +kernel
theorem dX11_crops_58 : decode cX11_crops 58 = .ok (.getfield 312, 3) := by decide +kernel
theorem dX11_crops_61 : decode cX11_crops 61 = .ok (.iload_n 2, 1) := by decide +kernel
theorem dX11_crops_62 : decode cX11_crops 62 = .ok (.iastore, 1) := by decide +kernel
theorem dX11_crops_63 : decode cX11_crops 63 = .ok (.aload_n 0, 1) := by decide +kernel
theorem dX11_crops_64 : decode cX11_crops 64 = .ok (.dup, 1) := by decide +kernel
theorem dX11_crops_65 : decode cX11_crops 65 = .ok (.getfield 312, 3) := by decide +kernel
theorem dX11_crops_68 : decode cX11_crops 68 = .ok (.iconst 1, 1) := by decide +kernel
theorem dX11_crops_69 : decode cX11_crops 69 = .ok (.iadd, 1) := by decide +kernel
theorem dX11_crops_70 : decode cX11_crops 70 = .ok (.putfield 312, 3) := by decide +kernel
theorem dX11_crops_73 : decode cX11_crops 73 = .ok (.aload_n 0, 1) := by decide +kernel
theorem dX11_crops_74 : decode cX11_crops 74 = .ok (.aload_n 0, 1) := by decide +kernel
theorem dX11_crops_75 : decode cX11_crops 75 = .ok (.getfield 312, 3) := by decide +kernel
theorem dX11_crops_78 : decode cX11_crops 78 = .ok (.invokevirtual 77, 3) := by decide +kernel
theorem dX11_crops_81 : decode cX11_crops 81 = .ok (.ireturn, 1) := by decide +kernel
theorem dX11_crops_36 : decode cX11_crops 36 = .ok (.aload_n 0, 1) := by decide +kernel
theorem dX11_crops_37 : decode cX11_crops 37 = .ok (.bipush (-5), 2) := by decide +kernel
theorem dX11_crops_39 : decode cX11_crops 39 = .ok (.invokevirtual 59, 3) := by decide +kernel
theorem dX11_crops_42 : decode cX11_crops 42 = .ok (.ireturn, 1) := by decide +kernel
theorem dX11_deal_0 : decode cX11_deal 0 = .ok (.aload_n 0, 1) := by decide +kernel
theorem dX11_deal_1 : decode cX11_deal 1 = .ok (.getfield 12, 3) := by decide +kernel
theorem dX11_deal_4 : decode cX11_deal 4 = .ok (.getfield 63, 3) := by decide +kernel
theorem dX11_deal_7 : decode cX11_deal 7 = .ok (.astore 4, 2) := by decide +kernel
theorem dX11_deal_9 : decode cX11_deal 9 = .ok (.aload_n 0, 1) := by decide +kernel
theorem dX11_deal_10 : decode cX11_deal 10 = .ok (.getfield 12, 3) := by decide +kernel
theorem dX11_deal_13 : decode cX11_deal 13 = .ok (.getfield 98, 3) := by decide +kernel
theorem dX11_deal_16 : decode cX11_deal 16 = .ok (.astore 5, 2) := by decide +kernel
theorem dX11_deal_18 : decode cX11_deal 18 = .ok (.iload_n 3, 1) := by decide +kernel
theorem dX11_deal_19 : decode cX11_deal 19 = .ok (.iconst 1, 1) := by decide +kernel
theorem dX11_deal_20 : decode cX11_deal 20 = .ok (.sipush 10000, 3) := by decide +kernel
theorem dX11_deal_23 : decode cX11_deal 23 = .ok (.invokestatic 54, 3) := by decide +kernel
theorem dX11_deal_26 : decode cX11_deal 26 = .ok (.ifCond .ne 9, 3) := by decide +kernel
theorem dX11_deal_35 : decode cX11_deal 35 = .ok (.aload 4, 2) := by decide +kernel
theorem dX11_deal_37 : decode cX11_deal 37 = .ok (.iload_n 1, 1) := by decide +kernel
theorem dX11_deal_38 : decode cX11_deal 38 = .ok (.invokevirtual 80, 3) := by decide +kernel
theorem dX11_deal_41 : decode cX11_deal 41 = .ok (.ifCond .eq 12, 3) := by decide +kernel
theorem dX11_deal_53 : decode cX11_deal 53 = .ok (.aload_n 0, 1) := by decide +kernel
theorem dX11_deal_54 : decode cX11_deal 54 = .ok (.bipush (-2), 2) := by decide +kernel
theorem dX11_deal_56 : decode cX11_deal 56 = .ok (.invokevirtual 59, 3) := by decide +kernel
theorem dX11_deal_59 : decode cX11_deal 59 = .ok (.ireturn, 1) := by decide +kernel
theorem dX11_deal_44 : decode cX11_deal 44 = .ok (.aload 4, 2) := by decide +kernel
theorem dX11_deal_46 : decode cX11_deal 46 = .ok (.iload_n 2, 1) := by decide +kernel
theorem dX11_deal_47 : decode cX11_deal 47 = .ok (.invokevirtual 80, 3) := by decide +kernel
theorem dX11_deal_50 : decode cX11_deal 50 = .ok (.ifCond .ne 10, 3) := by decide +kernel
theorem dX11_deal_60 : decode cX11_deal 60 = .ok (.iload_n 1, 1) := by decide +kernel
theorem dX11_deal_61 : decode cX11_deal 61 = .ok (.iload_n 2, 1) := by decide +kernel
theorem dX11_deal_62 : decode cX11_deal 62 = .ok (.if_icmp .eq 58, 3) := by decide +kernel
theorem dX11_deal_120 : decode cX11_deal 120 = .ok (.aload_n 0, 1) := by decide +kernel
theorem dX11_deal_121 : decode cX11_deal 121 = .ok (.bipush (-3), 2) := by decide +kernel
theorem dX11_deal_123 : decode cX11_deal 123 = .ok (.invokevirtual 59, 3) := by decide +kernel
theorem dX11_deal_126 : decode cX11_deal 126 = .ok (.ireturn, 1) := by decide +kernel
theorem dX11_deal_65 : decode cX11_deal 65 = .ok (.aload 4, 2) := by decide +kernel
theorem dX11_deal_67 : decode cX11_deal 67 = .ok (.getfield 94, 3) := by decide +kernel
theorem dX11_deal_70 : decode cX11_deal 70 = .ok (.iload_n 2, 1) := by decide +kernel
theorem dX11_deal_71 : decode cX11_deal 71 = .ok (.iaload, 1) := by decide +kernel
theorem dX11_deal_72 : decode cX11_deal 72 = .ok (.iload_n 3, 1) := by decide +kernel
theorem dX11_deal_73 : decode cX11_deal 73 = .ok (.if_icmp .lt 47, 3) := by decide +kernel
theorem dX11_deal_76 : decode cX11_deal 76 = .ok (.aload 4, 2) := by decide +kernel
theorem dX11_deal_78 : decode cX11_deal 78 = .ok (.iload_n 1, 1) := by decide +kernel
theorem dX11_deal_79 : decode cX11_deal 79 = .ok (.invokevirtual 279, 3) := by decide +kernel
theorem dX11_deal_82 : decode cX11_deal 82 = .ok (.ifCond .eq 38, 3) := by decide +kernel
theorem dX11_deal_85 : decode cX11_deal 85 = .ok (.aload 4, 2) := by decide +kernel
theorem dX11_deal_87 : decode cX11_deal 87 = .ok (.iload_n 2, 1) := by decide +kernel
theorem dX11_deal_88 : decode cX11_deal 88 = .ok (.invokevirtual 279, 3) := by decide +kernel
theorem dX11_deal_91 : decode cX11_deal 91 = .ok (.ifCond .eq 29, 3) := by decide +kernel
theorem dX11_deal_94 : decode cX11_deal 94 = .ok (.aload 4, 2) := by decide +kernel
theorem dX11_deal_96 : decode cX11_deal 96 = .ok (.getfield 141, 3) := by decide +kernel
theorem dX11_deal_99 : decode cX11_deal 99 = .ok (.iload_n 2, 1) := by decide +kernel
theorem dX11_deal_100 : decode cX11_deal 100 = .ok (.iaload, 1) := by decide +kernel
theorem dX11_deal_101 : decode cX11_deal 101 = .ok (.iconst 1, 1) := by decide +kernel
theorem dX11_deal_102 : decode cX11_deal 102 = .ok (.if_icmp .ne 25, 3) := by decide +kernel
theorem dX11_deal_127 : decode cX11_deal 127 = .ok (.aload 5, 2) := by decide +kernel
theorem dX11_deal_129 : decode cX11_deal 129 = .ok (.getfield 288, 3) := by decide +kernel
theorem dX11_deal_132 : decode cX11_deal 132 = .ok (.sipush 200, 3) := by decide +kernel
theorem dX11_deal_135 : decode cX11_deal 135 = .ok (.if_icmp .lt 10, 3) := by decide +kernel
theorem dX11_deal_145 : decode cX11_deal 145 = .ok (.aload 4, 2) := by decide +kernel
theorem dX11_deal_147 : decode cX11_deal 147 = .ok (.getfield 94, 3) := by decide +kernel
theorem dX11_deal_150 : decode cX11_deal 150 = .ok (.iload_n 2, 1) := by decide +kernel
theorem dX11_deal_151 : decode cX11_deal 151 = .ok (.dup2, 1) := by decide +kernel
theorem dX11_deal_152 : decode cX11_deal 152 = .ok (.iaload, 1) := by decide +kernel
theorem dX11_deal_153 : decode cX11_deal 153 = .ok (.iload_n 3, 1) := by decide +kernel
theorem dX11_deal_154 : decode cX11_deal 154 = .ok (.isub, 1) := by decide +kernel
theorem dX11_deal_155 : decode cX11_deal 155 = .ok (.iastore, 1) := by decide +kernel
theorem dX11_deal_156 : decode cX11_deal 156 = .ok (.aload 4, 2) := by decide +kernel
theorem dX11_deal_158 : decode cX11_deal 158 = .ok (.iload_n 1, 1) := by decide +kernel
theorem dX11_deal_159 : decode cX11_deal 159 = .ok (.iload_n 3, 1) := by decide +kernel
theorem dX11_deal_160 : decode cX11_deal 160 = .ok (.invokevirtual 90, 3) := by decide +kernel
theorem dX11_deal_163 : decode cX11_deal 163 = .ok (.aload 5, 2) := by decide +kernel
theorem dX11_deal_165 : decode cX11_deal 165 = .ok (.dup, 1) := by decide +kernel
theorem dX11_deal_166 : decode cX11_deal 166 = .ok (.getfield 288, 3) := by decide +kernel
theorem dX11_deal_169 : decode cX11_deal 169 = .ok (.iconst 1, 1) := by decide +kernel
theorem dX11_deal_170 : decode cX11_deal 170 = .ok (.iadd, 1) := by decide +kernel
theorem dX11_deal_171 : decode cX11_deal 171 = .ok (.putfield 288, 3) := by decide +kernel
theorem dX11_deal_174 : decode cX11_deal 174 = .ok (.aload_n 0, 1) := by decide +kernel
theorem dX11_deal_175 : decode cX11_deal 175 = .ok (.aload 5, 2) := by decide +kernel
theorem dX11_deal_177 : decode cX11_deal 177 = .ok (.getfield 288, 3) := by decide +kernel
theorem dX11_deal_180 : decode cX11_deal 180 = .ok (.invokevirtual 77, 3) := by decide +kernel
theorem dX11_deal_183 : decode cX11_deal 183 = .ok (.ireturn, 1) := by decide +kernel
theorem dX11_deal_138 : decode cX11_deal 138 = .ok (.aload_n 0, 1) := by decide +kernel
theorem dX11_deal_139 : decode cX11_deal 139 = .ok (.bipush (-5), 2) := by decide +kernel
theorem dX11_deal_141 : decode cX11_deal 141 = .ok (.invokevirtual 59, 3) := by decide +kernel
theorem dX11_deal_144 : decode cX11_deal 144 = .ok (.ireturn, 1) := by decide +kernel
theorem dX11_deal_105 : decode cX11_deal 105 = .ok (.aload 4, 2) := by decide +kernel
theorem dX11_deal_107 : decode cX11_deal 107 = .ok (.iload_n 1, 1) := by decide +kernel
theorem dX11_deal_108 : decode cX11_deal 108 = .ok (.iload_n 2, 1) := by decide +kernel
theorem dX11_deal_109 : decode cX11_deal 109 = .ok (.aload 5, 2) := by decide +kernel
theorem dX11_deal_111 : decode cX11_deal 111 = .ok (.getfield 282, 3) := by decide +kernel
theorem dX11_deal_114 : decode cX11_deal 114 = .ok (.invokevirtual 285, 3) := by decide +kernel
theorem dX11_deal_117 : decode cX11_deal 117 = .ok (.ifCond .eq 10, 3) := by decide +kernel
theorem dX11_deal_29 : decode cX11_deal 29 = .ok (.aload_n 0, 1) := by decide +kernel
theorem dX11_deal_30 : decode cX11_deal 30 = .ok (.iconst (-1), 1) := by decide +kernel
theorem dX11_deal_31 : decode cX11_deal 31 = .ok (.invokevirtual 59, 3) := by decide +kernel
theorem dX11_deal_34 : decode cX11_deal 34 = .ok (.ireturn, 1) := by decide +kernel
theorem dX11_end_0 : decode cX11_end 0 = .ok (.iload_n 1, 1) := by decide +kernel
theorem dX11_end_1 : decode cX11_end 1 = .ok (.iconst 0, 1) := by decide +kernel
theorem dX11_end_2 : decode cX11_end 2 = .ok (.aload_n 0, 1) := by decide +kernel
theorem dX11_end_3 : decode cX11_end 3 = .ok (.getfield 30, 3) := by decide +kernel
theorem dX11_end_6 : decode cX11_end 6 = .ok (.getfield 209, 3) := by decide +kernel
theorem dX11_end_9 : decode cX11_end 9 = .ok (.invokestatic 54, 3) := by decide +kernel
theorem dX11_end_12 : decode cX11_end 12 = .ok (.ifCond .ne 5, 3) := by decide +kernel
theorem dX11_end_17 : decode cX11_end 17 = .ok (.aload_n 0, 1) := by decide +kernel
theorem dX11_end_18 : decode cX11_end 18 = .ok (.getfield 30, 3) := by decide +kernel
theorem dX11_end_21 : decode cX11_end 21 = .ok (.iload_n 1, 1) := by decide +kernel
theorem dX11_end_22 : decode cX11_end 22 = .ok (.putfield 209, 3) := by decide +kernel
theorem dX11_end_25 : decode cX11_end 25 = .ok (.iload_n 1, 1) := by decide +kernel
theorem dX11_end_26 : decode cX11_end 26 = .ok (.ireturn, 1) := by decide +kernel
theorem dX11_end_15 : decode cX11_end 15 = .ok (.iconst (-1), 1) := by decide +kernel
theorem dX11_end_16 : decode cX11_end 16 = .ok (.ireturn, 1) := by decide +kernel
theorem dX11_estate_0 : decode cX11_estate 0 = .ok (.iload_n 1, 1) := by decide +kernel
theorem dX11_estate_1 : decode cX11_estate 1 = .ok (.iconst 0, 1) := by decide +kernel
theorem dX11_estate_2 : decode cX11_estate 2 = .ok (.ldc 97, 2) := by decide +kernel
theorem dX11_estate_4 : decode cX11_estate 4 = .ok (.invokestatic 54, 3) := by decide +kernel
theorem dX11_estate_7 : decode cX11_estate 7 = .ok (.ifCond .eq 13, 3) := by decide +kernel
theorem dX11_estate_20 : decode cX11_estate 20 = .ok (.aload_n 0, 1) := by decide +kernel
theorem dX11_estate_21 : decode cX11_estate 21 = .ok (.iconst (-1), 1) := by decide +kernel
theorem dX11_estate_22 : decode cX11_estate 22 = .ok (.invokevirtual 59, 3) := by decide +kernel
theorem dX11_estate_25 : decode cX11_estate 25 = .ok (.ireturn, 1) := by decide +kernel
theorem dX11_estate_10 : decode cX11_estate 10 = .ok (.iload_n 2, 1) := by decide +kernel
theorem dX11_estate_11 : decode cX11_estate 11 = .ok (.iconst 0, 1) := by decide +kernel
theorem dX11_estate_12 : decode cX11_estate 12 = .ok (.ldc 58, 2) := by decide +kernel
theorem dX11_estate_14 : decode cX11_estate 14 = .ok (.invokestatic 54, 3) := by decide +kernel
theorem dX11_estate_17 : decode cX11_estate 17 = .ok (.ifCond .ne 9, 3) := by decide +kernel
theorem dX11_estate_26 : decode cX11_estate 26 = .ok (.aload_n 0, 1) := by decide +kernel
theorem dX11_estate_27 : decode cX11_estate 27 = .ok (.getfield 12, 3) := by decide +kernel
theorem dX11_estate_30 : decode cX11_estate 30 = .ok (.getfield 114, 3) := by decide +kernel
theorem dX11_estate_33 : decode cX11_estate 33 = .ok (.getfield 118, 3) := by decide +kernel
theorem dX11_estate_36 : decode cX11_estate 36 = .ok (.bipush 8, 2) := by decide +kernel
theorem dX11_estate_38 : decode cX11_estate 38 = .ok (.if_icmp .lt 10, 3) := by decide +kernel
theorem dX11_estate_48 : decode cX11_estate 48 = .ok (.aload_n 0, 1) := by decide +kernel
theorem dX11_estate_49 : decode cX11_estate 49 = .ok (.aload_n 0, 1) := by decide +kernel
theorem dX11_estate_50 : decode cX11_estate 50 = .ok (.getfield 12, 3) := by decide +kernel
theorem dX11_estate_53 : decode cX11_estate 53 = .ok (.getfield 114, 3) := by decide +kernel
theorem dX11_estate_56 : decode cX11_estate 56 = .ok (.iload_n 1, 1) := by decide +kernel
theorem dX11_estate_57 : decode cX11_estate 57 = .ok (.iload_n 2, 1) := by decide +kernel
theorem dX11_estate_58 : decode cX11_estate 58 = .ok (.invokevirtual 123, 3) := by decide +kernel
theorem dX1_addEstate_0 : decode cX1_addEstate 0 = .ok (.aload_n 0, 1) := by decide +kernel
theorem dX1_addEstate_1 : decode cX1_addEstate 1 = .ok (.getfield 49, 3) := by decide +kernel
theorem dX1_addEstate_4 : decode cX1_addEstate 4 = .ok (.bipush 8, 2) := by decide +kernel
theorem dX1_addEstate_6 : decode cX1_addEstate 6 = .ok (.if_icmp .lt 5, 3) := by decide +kernel
theorem dX1_addEstate_11 : decode cX1_addEstate 11 = .ok (.aload_n 0, 1) := by decide +kernel
theorem dX1_addEstate_12 : decode cX1_addEstate 12 = .ok (.getfield 49, 3) := by decide +kernel
theorem dX1_addEstate_15 : decode cX1_addEstate 15 = .ok (.istore_n 3, 1) := by decide +kernel
theorem dX1_addEstate_16 : decode cX1_addEstate 16 = .ok (.aload_n 0, 1) := by decide +kernel
theorem dX1_addEstate_17 : decode cX1_addEstate 17 = .ok (.getfield 33, 3) := by decide +kernel
theorem dX1_addEstate_20 : decode cX1_addEstate 20 = .ok (.iload_n 3, 1) := by decide +kernel
theorem dX1_addEstate_21 : decode cX1_addEstate 21 = .ok (.iload_n 1, 1) := by decide +kernel
theorem dX1_addEstate_22 : decode cX1_addEstate 22 = .ok (.iastore, 1) := by decide +kernel
theorem dX1_addEstate_23 : decode cX1_addEstate 23 = .ok (.aload_n 0, 1) := by decide +kernel
theorem dX1_addEstate_24 : decode cX1_addEstate 24 = .ok (.getfield 36, 3) := by decide +kernel
theorem dX1_addEstate_27 : decode cX1_addEstate 27 = .ok (.iload_n 3, 1) := by decide +kernel
theorem dX1_addEstate_28 : decode cX1_addEstate 28 = .ok (.iload_n 2, 1) := by decide +kernel
theorem dX1_addEstate_29 : decode cX1_addEstate 29 = .ok (.iastore, 1) := by decide +kernel
theorem dX1_addEstate_30 : decode cX1_addEstate 30 = .ok (.aload_n 0, 1) := by decide +kernel
theorem dX1_addEstate_31 : decode cX1_addEstate 31 = .ok (.getfield 39, 3) := by decide +kernel
theorem dX1_addEstate_34 : decode cX1_addEstate 34 = .ok (.iload_n 3, 1) := by decide +kernel
theorem dX1_addEstate_35 : decode cX1_addEstate 35 = .ok (.iconst (-1), 1) := by decide +kernel
theorem dX1_addEstate_36 : decode cX1_addEstate 36 = .ok (.iastore, 1) := by decide +kernel
theorem dX1_addEstate_37 : decode cX1_addEstate 37 = .ok (.aload_n 0, 1) := by decide +kernel
theorem dX1_addEstate_38 : decode cX1_addEstate 38 = .ok (.dup, 1) := by decide +kernel
theorem dX1_addEstate_39 : decode cX1_addEstate 39 = .ok (.getfield 49, 3) := by decide +kernel
theorem dX1_addEstate_42 : decode cX1_addEstate 42 = .ok (.iconst 1, 1) := by decide +kernel
theorem dX1_addEstate_43 : decode cX1_addEstate 43 = .ok (.iadd, 1) := by decide +kernel
theorem dX1_addEstate_44 : decode cX1_addEstate 44 = .ok (.putfield 49, 3) := by decide +kernel
theorem dX1_addEstate_47 : decode cX1_addEstate 47 = .ok (.iload_n 3, 1) := by decide +kernel
theorem dX1_addEstate_48 : decode cX1_addEstate 48 = .ok (.ireturn, 1) := by decide +kernel
theorem dX1_addEstate_9 : decode cX1_addEstate 9 = .ok (.iconst (-1), 1) := by decide +kernel
theorem dX1_addEstate_10 : decode cX1_addEstate 10 = .ok (.ireturn, 1) := by decide +kernel
theorem dX11_estate_61 : decode cX11_estate 61 = .ok (.invokevirtual 77, 3) := by decide +kernel
theorem dX11_estate_64 : decode cX11_estate 64 = .ok (.ireturn, 1) := by decide +kernel
theorem dX11_estate_41 : decode cX11_estate 41 = .ok (.aload_n 0, 1) := by decide +kernel
theorem dX11_estate_42 : decode cX11_estate 42 = .ok (.bipush (-5), 2) := by decide +kernel
theorem dX11_estate_44 : decode cX11_estate 44 = .ok (.invokevirtual 59, 3) := by decide +kernel
theorem dX11_estate_47 : decode cX11_estate 47 = .ok (.ireturn, 1) := by decide +kernel
theorem dX11_fault_0 : decode cX11_fault 0 = .ok (.aload_n 0, 1) := by decide +kernel
theorem dX11_fault_1 : decode cX11_fault 1 = .ok (.getfield 37, 3) := by decide +kernel
theorem dX11_fault_4 : decode cX11_fault 4 = .ok (.getfield 233, 3) := by decide +kernel
theorem dX11_fault_7 : decode cX11_fault 7 = .ok (.ireturn, 1) := by decide +kernel
theorem dX11_feed_0 : decode cX11_feed 0 = .ok (.aload_n 0, 1) := by decide +kernel
theorem dX11_feed_1 : decode cX11_feed 1 = .ok (.getfield 30, 3) := by decide +kernel
theorem dX11_feed_4 : decode cX11_feed 4 = .ok (.getfield 209, 3) := by decide +kernel
theorem dX11_feed_7 : decode cX11_feed 7 = .ok (.bipush 20, 2) := by decide +kernel
theorem dX11_feed_9 : decode cX11_feed 9 = .ok (.iadd, 1) := by decide +kernel
theorem dX11_feed_10 : decode cX11_feed 10 = .ok (.sipush 400, 3) := by decide +kernel
theorem dX11_feed_13 : decode cX11_feed 13 = .ok (.if_icmp .le 5, 3) := by decide +kernel
theorem dX11_feed_18 : decode cX11_feed 18 = .ok (.aload_n 0, 1) := by decide +kernel
theorem dX11_feed_19 : decode cX11_feed 19 = .ok (.getfield 30, 3) := by decide +kernel
theorem dX11_feed_22 : decode cX11_feed 22 = .ok (.iload_n 1, 1) := by decide +kernel
theorem dX11_feed_23 : decode cX11_feed 23 = .ok (.invokevirtual 215, 3) := by decide +kernel
theorem dX8_append_0 : decode cX8_append 0 = .ok (.bipush 24, 2) := by decide +kernel
theorem dX8_append_2 : decode cX8_append 2 = .ok (.istore_n 2, 1) := by decide +kernel
theorem dX8_append_3 : decode cX8_append 3 = .ok (.iload_n 2, 1) := by decide +kernel
theorem dX8_append_4 : decode cX8_append 4 = .ok (.ifCond .lt 45, 3) := by decide +kernel
theorem dX8_append_7 : decode cX8_append 7 = .ok (.aload_n 0, 1) := by decide +kernel
theorem dX8_append_8 : decode cX8_append 8 = .ok (.getfield 19, 3) := by decide +kernel
theorem dX8_append_11 : decode cX8_append 11 = .ok (.sipush 400, 3) := by decide +kernel
theorem dX8_append_14 : decode cX8_append 14 = .ok (.if_icmp .ge 35, 3) := by decide +kernel
theorem dX8_append_17 : decode cX8_append 17 = .ok (.aload_n 0, 1) := by decide +kernel
theorem dX8_append_18 : decode cX8_append 18 = .ok (.getfield 9, 3) := by decide +kernel
theorem dX8_append_21 : decode cX8_append 21 = .ok (.aload_n 0, 1) := by decide +kernel
theorem dX8_append_22 : decode cX8_append 22 = .ok (.getfield 19, 3) := by decide +kernel
theorem dX8_append_25 : decode cX8_append 25 = .ok (.iload_n 1, 1) := by decide +kernel
theorem dX8_append_26 : decode cX8_append 26 = .ok (.iload_n 2, 1) := by decide +kernel
theorem dX8_append_27 : decode cX8_append 27 = .ok (.iushr, 1) := by decide +kernel
theorem dX8_append_28 : decode cX8_append 28 = .ok (.sipush 255, 3) := by decide +kernel
theorem dX8_append_31 : decode cX8_append 31 = .ok (.iand, 1) := by decide +kernel
theorem dX8_append_32 : decode cX8_append 32 = .ok (.iastore, 1) := by decide +kernel
theorem dX8_append_33 : decode cX8_append 33 = .ok (.aload_n 0, 1) := by decide +kernel
theorem dX8_append_34 : decode cX8_append 34 = .ok (.dup, 1) := by decide +kernel
theorem dX8_append_35 : decode cX8_append 35 = .ok (.getfield 19, 3) := by decide +kernel
theorem dX8_append_38 : decode cX8_append 38 = .ok (.iconst 1, 1) := by decide +kernel
theorem dX8_append_39 : decode cX8_append 39 = .ok (.iadd, 1) := by decide +kernel
theorem dX8_append_40 : decode cX8_append 40 = .ok (.putfield 19, 3) := by decide +kernel
theorem dX8_append_43 : decode cX8_append 43 = .ok (.iinc 2 (-8), 3) := by decide +kernel
theorem dX8_append_46 : decode cX8_append 46 = .ok (.goto (-43), 3) := by decide +kernel
theorem dX8_append_49 : decode cX8_append 49 = .ok (.return_, 1) := by decide +kernel
theorem dX11_feed_26 : decode cX11_feed 26 = .ok (.aload_n 0, 1) := by decide +kernel
theorem dX11_feed_27 : decode cX11_feed 27 = .ok (.getfield 30, 3) := by decide +kernel
theorem dX11_feed_30 : decode cX11_feed 30 = .ok (.iload_n 2, 1) := by decide +kernel
theorem dX11_feed_31 : decode cX11_feed 31 = .ok (.invokevirtual 215, 3) := by decide +kernel
theorem dX11_feed_34 : decode cX11_feed 34 = .ok (.aload_n 0, 1) := by decide +kernel
theorem dX11_feed_35 : decode cX11_feed 35 = .ok (.getfield 30, 3) := by decide +kernel
theorem dX11_feed_38 : decode cX11_feed 38 = .ok (.iload_n 3, 1) := by decide +kernel
theorem dX11_feed_39 : decode cX11_feed 39 = .ok (.invokevirtual 215, 3) := by decide +kernel
theorem dX11_feed_42 : decode cX11_feed 42 = .ok (.aload_n 0, 1) := by decide +kernel
theorem dX11_feed_43 : decode cX11_feed 43 = .ok (.getfield 30, 3) := by decide +kernel
theorem dX11_feed_46 : decode cX11_feed 46 = .ok (.iload 4, 2) := by decide +kernel
theorem dX11_feed_48 : decode cX11_feed 48 = .ok (.invokevirtual 215, 3) := by decide +kernel
theorem dX11_feed_51 : decode cX11_feed 51 = .ok (.aload_n 0, 1) := by decide +kernel
theorem dX11_feed_52 : decode cX11_feed 52 = .ok (.getfield 30, 3) := by decide +kernel
theorem dX11_feed_55 : decode cX11_feed 55 = .ok (.iload 5, 2) := by decide +kernel
theorem dX11_feed_57 : decode cX11_feed 57 = .ok (.invokevirtual 215, 3) := by decide +kernel
theorem dX11_feed_60 : decode cX11_feed 60 = .ok (.aload_n 0, 1) := by decide +kernel
theorem dX11_feed_61 : decode cX11_feed 61 = .ok (.getfield 30, 3) := by decide +kernel
theorem dX11_feed_64 : decode cX11_feed 64 = .ok (.getfield 209, 3) := by decide +kernel
theorem dX11_feed_67 : decode cX11_feed 67 = .ok (.ireturn, 1) := by decide +kernel
theorem dX11_feed_16 : decode cX11_feed 16 = .ok (.iconst (-1), 1) := by decide +kernel
theorem dX11_feed_17 : decode cX11_feed 17 = .ok (.ireturn, 1) := by decide +kernel
theorem dX11_field_0 : decode cX11_field 0 = .ok (.aload_n 0, 1) := by decide +kernel
theorem dX11_field_1 : decode cX11_field 1 = .ok (.getfield 12, 3) := by decide +kernel
theorem dX11_field_4 : decode cX11_field 4 = .ok (.getfield 63, 3) := by decide +kernel
theorem dX11_field_7 : decode cX11_field 7 = .ok (.astore 5, 2) := by decide +kernel
theorem dX11_field_9 : decode cX11_field 9 = .ok (.iload_n 2, 1) := by decide +kernel
theorem dX11_field_10 : decode cX11_field 10 = .ok (.iconst 1, 1) := by decide +kernel
theorem dX11_field_11 : decode cX11_field 11 = .ok (.sipush 1000, 3) := by decide +kernel
theorem dX11_field_14 : decode cX11_field 14 = .ok (.invokestatic 54, 3) := by decide +kernel
theorem dX11_field_17 : decode cX11_field 17 = .ok (.ifCond .eq 13, 3) := by decide +kernel
theorem dX11_field_30 : decode cX11_field 30 = .ok (.aload_n 0, 1) := by decide +kernel
theorem dX11_field_31 : decode cX11_field 31 = .ok (.iconst (-1), 1) := by decide +kernel
theorem dX11_field_32 : decode cX11_field 32 = .ok (.invokevirtual 59, 3) := by decide +kernel
theorem dX11_field_35 : decode cX11_field 35 = .ok (.ireturn, 1) := by decide +kernel
theorem dX11_field_20 : decode cX11_field 20 = .ok (.iload_n 3, 1) := by decide +kernel
theorem dX11_field_21 : decode cX11_field 21 = .ok (.iconst 0, 1) := by decide +kernel
theorem dX11_field_22 : decode cX11_field 22 = .ok (.ldc 126, 2) := by decide +kernel
theorem dX11_field_24 : decode cX11_field 24 = .ok (.invokestatic 54, 3) := by decide +kernel
theorem dX11_field_27 : decode cX11_field 27 = .ok (.ifCond .ne 9, 3) := by decide +kernel
theorem dX11_field_36 : decode cX11_field 36 = .ok (.aload_n 0, 1) := by decide +kernel
theorem dX11_field_37 : decode cX11_field 37 = .ok (.getfield 12, 3) := by decide +kernel
theorem dX11_field_40 : decode cX11_field 40 = .ok (.getfield 114, 3) := by decide +kernel
theorem dX11_field_43 : decode cX11_field 43 = .ok (.iload_n 1, 1) := by decide +kernel
theorem dX11_field_44 : decode cX11_field 44 = .ok (.invokevirtual 127, 3) := by decide +kernel
theorem dX1_hasEstate_0 : decode cX1_hasEstate 0 = .ok (.iload_n 1, 1) := by decide +kernel
theorem dX1_hasEstate_1 : decode cX1_hasEstate 1 = .ok (.ifCond .lt 15, 3) := by decide +kernel
theorem dX1_hasEstate_16 : decode cX1_hasEstate 16 = .ok (.iconst 0, 1) := by decide +kernel
theorem dX1_hasEstate_17 : decode cX1_hasEstate 17 = .ok (.ireturn, 1) := by decide +kernel
theorem dX1_hasEstate_4 : decode cX1_hasEstate 4 = .ok (.iload_n 1, 1) := by decide +kernel
theorem dX1_hasEstate_5 : decode cX1_hasEstate 5 = .ok (.aload_n 0, 1) := by decide +kernel
theorem dX1_hasEstate_6 : decode cX1_hasEstate 6 = .ok (.getfield 49, 3) := by decide +kernel
theorem dX1_hasEstate_9 : decode cX1_hasEstate 9 = .ok (.if_icmp .ge 7, 3) := by decide +kernel
theorem dX1_hasEstate_12 : decode cX1_hasEstate 12 = .ok (.iconst 1, 1) := by decide +kernel
theorem dX1_hasEstate_13 : decode cX1_hasEstate 13 = .ok (.goto 4, 3) := by decide +kernel
theorem dX11_field_47 : decode cX11_field 47 = .ok (.ifCond .eq 19, 3) := by decide +kernel
theorem dX11_field_66 : decode cX11_field 66 = .ok (.aload_n 0, 1) := by decide +kernel
theorem dX11_field_67 : decode cX11_field 67 = .ok (.bipush (-2), 2) := by decide +kernel
theorem dX11_field_69 : decode cX11_field 69 = .ok (.invokevirtual 59, 3) := by decide +kernel
theorem dX11_field_72 : decode cX11_field 72 = .ok (.ireturn, 1) := by decide +kernel
theorem dX11_field_50 : decode cX11_field 50 = .ok (.iload 4, 2) := by decide +kernel
theorem dX11_field_52 : decode cX11_field 52 = .ok (.iconst (-1), 1) := by decide +kernel
theorem dX11_field_53 : decode cX11_field 53 = .ok (.if_icmp .eq 20, 3) := by decide +kernel
theorem dX11_field_73 : decode cX11_field 73 = .ok (.iload 4, 2) := by decide +kernel
theorem dX11_field_75 : decode cX11_field 75 = .ok (.iconst (-1), 1) := by decide +kernel
theorem dX11_field_76 : decode cX11_field 76 = .ok (.if_icmp .eq 21, 3) := by decide +kernel
theorem dX11_field_97 : decode cX11_field 97 = .ok (.aload_n 0, 1) := by decide +kernel
theorem dX11_field_98 : decode cX11_field 98 = .ok (.getfield 12, 3) := by decide +kernel
theorem dX11_field_101 : decode cX11_field 101 = .ok (.getfield 114, 3) := by decide +kernel
theorem dX11_field_104 : decode cX11_field 104 = .ok (.getfield 130, 3) := by decide +kernel
theorem dX11_field_107 : decode cX11_field 107 = .ok (.bipush 40, 2) := by decide +kernel
theorem dX11_field_109 : decode cX11_field 109 = .ok (.if_icmp .lt 10, 3) := by decide +kernel
theorem dX11_field_119 : decode cX11_field 119 = .ok (.aload_n 0, 1) := by decide +kernel
theorem dX11_field_120 : decode cX11_field 120 = .ok (.getfield 12, 3) := by decide +kernel
theorem dX11_field_123 : decode cX11_field 123 = .ok (.getfield 114, 3) := by decide +kernel
theorem dX11_field_126 : decode cX11_field 126 = .ok (.iload_n 1, 1) := by decide +kernel
theorem dX11_field_127 : decode cX11_field 127 = .ok (.iload_n 2, 1) := by decide +kernel
theorem dX11_field_128 : decode cX11_field 128 = .ok (.iload_n 3, 1) := by decide +kernel
theorem dX11_field_129 : decode cX11_field 129 = .ok (.invokevirtual 131, 3) := by decide +kernel
theorem dX1_addField_0 : decode cX1_addField 0 = .ok (.aload_n 0, 1) := by decide +kernel
theorem dX1_addField_1 : decode cX1_addField 1 = .ok (.getfield 46, 3) := by decide +kernel
theorem dX1_addField_4 : decode cX1_addField 4 = .ok (.bipush 40, 2) := by decide +kernel
theorem dX1_addField_6 : decode cX1_addField 6 = .ok (.if_icmp .lt 5, 3) := by decide +kernel
theorem dX1_addField_11 : decode cX1_addField 11 = .ok (.aload_n 0, 1) := by decide +kernel
theorem dX1_addField_12 : decode cX1_addField 12 = .ok (.getfield 46, 3) := by decide +kernel
theorem dX1_addField_15 : decode cX1_addField 15 = .ok (.istore 4, 2) := by decide +kernel
theorem dX1_addField_17 : decode cX1_addField 17 = .ok (.aload_n 0, 1) := by decide +kernel
theorem dX1_addField_18 : decode cX1_addField 18 = .ok (.getfield 9, 3) := by decide +kernel
theorem dX1_addField_21 : decode cX1_addField 21 = .ok (.iload 4, 2) := by decide +kernel
theorem dX1_addField_23 : decode cX1_addField 23 = .ok (.iload_n 1, 1) := by decide +kernel
theorem dX1_addField_24 : decode cX1_addField 24 = .ok (.iastore, 1) := by decide +kernel
theorem dX1_addField_25 : decode cX1_addField 25 = .ok (.aload_n 0, 1) := by decide +kernel
theorem dX1_addField_26 : decode cX1_addField 26 = .ok (.getfield 15, 3) := by decide +kernel
theorem dX1_addField_29 : decode cX1_addField 29 = .ok (.iload 4, 2) := by decide +kernel
theorem dX1_addField_31 : decode cX1_addField 31 = .ok (.iload_n 2, 1) := by decide +kernel
theorem dX1_addField_32 : decode cX1_addField 32 = .ok (.iastore, 1) := by decide +kernel
theorem dX1_addField_33 : decode cX1_addField 33 = .ok (.aload_n 0, 1) := by decide +kernel
theorem dX1_addField_34 : decode cX1_addField 34 = .ok (.getfield 18, 3) := by decide +kernel
theorem dX1_addField_37 : decode cX1_addField 37 = .ok (.iload 4, 2) := by decide +kernel
theorem dX1_addField_39 : decode cX1_addField 39 = .ok (.iload_n 3, 1) := by decide +kernel
theorem dX1_addField_40 : decode cX1_addField 40 = .ok (.iastore, 1) := by decide +kernel
theorem dX1_addField_41 : decode cX1_addField 41 = .ok (.aload_n 0, 1) := by decide +kernel
theorem dX1_addField_42 : decode cX1_addField 42 = .ok (.getfield 21, 3) := by decide +kernel
theorem dX1_addField_45 : decode cX1_addField 45 = .ok (.iload 4, 2) := by decide +kernel
theorem dX1_addField_47 : decode cX1_addField 47 = .ok (.iconst (-1), 1) := by decide +kernel
theorem dX1_addField_48 : decode cX1_addField 48 = .ok (.iastore, 1) := by decide +kernel
theorem dX1_addField_49 : decode cX1_addField 49 = .ok (.aload_n 0, 1) := by decide +kernel
theorem dX1_addField_50 : decode cX1_addField 50 = .ok (.getfield 24, 3) := by decide +kernel
theorem dX1_addField_53 : decode cX1_addField 53 = .ok (.iload 4, 2) := by decide +kernel
theorem dX1_addField_55 : decode cX1_addField 55 = .ok (.iconst 0, 1) := by decide +kernel
theorem dX1_addField_56 : decode cX1_addField 56 = .ok (.iastore, 1) := by decide +kernel
theorem dX1_addField_57 : decode cX1_addField 57 = .ok (.aload_n 0, 1) := by decide +kernel
theorem dX1_addField_58 : decode cX1_addField 58 = .ok (.getfield 27, 3) := by decide +kernel
theorem dX1_addField_61 : decode cX1_addField 61 = .ok (.iload 4, 2) := by decide +kernel
theorem dX1_addField_63 : decode cX1_addField 63 = .ok (.iconst 0, 1) := by decide +kernel
theorem dX1_addField_64 : decode cX1_addField 64 = .ok (.iastore, 1) := by decide +kernel
theorem dX1_addField_65 : decode cX1_addField 65 = .ok (.aload_n 0, 1) := by decide +kernel
theorem dX1_addField_66 : decode cX1_addField 66 = .ok (.getfield 30, 3) := by decide +kernel
theorem dX1_addField_69 : decode cX1_addField 69 = .ok (.iload 4, 2) := by decide +kernel
theorem dX1_addField_71 : decode cX1_addField 71 = .ok (.iconst 0, 1) := by decide +kernel
theorem dX1_addField_72 : decode cX1_addField 72 = .ok (.iastore, 1) := by decide +kernel
theorem dX1_addField_73 : decode cX1_addField 73 = .ok (.aload_n 0, 1) := by decide +kernel
theorem dX1_addField_74 : decode cX1_addField 74 = .ok (.dup, 1) := by decide +kernel
theorem dX1_addField_75 : decode cX1_addField 75 = .ok (.getfield 46, 3) := by decide +kernel
theorem dX1_addField_78 : decode cX1_addField 78 = .ok (.iconst 1, 1) := by decide +kernel
theorem dX1_addField_79 : decode cX1_addField 79 = .ok (.iadd, 1) := by decide +kernel
theorem dX1_addField_80 : decode cX1_addField 80 = .ok (.putfield 46, 3) := by decide +kernel
theorem dX1_addField_83 : decode cX1_addField 83 = .ok (.iload 4, 2) := by decide +kernel
theorem dX1_addField_85 : decode cX1_addField 85 = .ok (.ireturn, 1) := by decide +kernel
theorem dX1_addField_9 : decode cX1_addField 9 = .ok (.iconst (-1), 1) := by decide +kernel
theorem dX1_addField_10 : decode cX1_addField 10 = .ok (.ireturn, 1) := by decide +kernel
theorem dX11_field_132 : decode cX11_field 132 = .ok (.istore 6, 2) := by decide +kernel
theorem dX11_field_134 : decode cX11_field 134 = .ok (.iload 4, 2) := by decide +kernel
theorem dX11_field_136 : decode cX11_field 136 = .ok (.iconst (-1), 1) := by decide +kernel
theorem dX11_field_137 : decode cX11_field 137 = .ok (.if_icmp .eq 15, 3) := by decide +kernel
theorem dX11_field_152 : decode cX11_field 152 = .ok (.aload_n 0, 1) := by decide +kernel
theorem dX11_field_153 : decode cX11_field 153 = .ok (.iload 6, 2) := by decide +kernel
theorem dX11_field_155 : decode cX11_field 155 = .ok (.invokevirtual 77, 3) := by decide +kernel
theorem dX11_field_158 : decode cX11_field 158 = .ok (.ireturn, 1) := by decide +kernel
theorem dX11_field_112 : decode cX11_field 112 = .ok (.aload_n 0, 1) := by decide +kernel
theorem dX11_field_113 : decode cX11_field 113 = .ok (.bipush (-5), 2) := by decide +kernel
theorem dX11_field_115 : decode cX11_field 115 = .ok (.invokevirtual 59, 3) := by decide +kernel
theorem dX11_field_118 : decode cX11_field 118 = .ok (.ireturn, 1) := by decide +kernel
theorem dX11_field_56 : decode cX11_field 56 = .ok (.aload 5, 2) := by decide +kernel
theorem dX11_field_58 : decode cX11_field 58 = .ok (.iload 4, 2) := by decide +kernel
theorem dX11_field_60 : decode cX11_field 60 = .ok (.invokevirtual 80, 3) := by decide +kernel
theorem dX11_field_63 : decode cX11_field 63 = .ok (.ifCond .ne 10, 3) := by decide +kernel
theorem dX11_field_79 : decode cX11_field 79 = .ok (.aload 5, 2) := by decide +kernel
theorem dX11_field_81 : decode cX11_field 81 = .ok (.getfield 87, 3) := by decide +kernel
theorem dX11_field_84 : decode cX11_field 84 = .ok (.iload 4, 2) := by decide +kernel
theorem dX11_field_86 : decode cX11_field 86 = .ok (.iaload, 1) := by decide +kernel
theorem dX11_field_87 : decode cX11_field 87 = .ok (.ifCond .eq 10, 3) := by decide +kernel
theorem dX11_field_140 : decode cX11_field 140 = .ok (.aload_n 0, 1) := by decide +kernel
theorem dX11_field_141 : decode cX11_field 141 = .ok (.getfield 12, 3) := by decide +kernel
theorem dX11_field_144 : decode cX11_field 144 = .ok (.iload 4, 2) := by decide +kernel
theorem dX11_field_146 : decode cX11_field 146 = .ok (.iload 6, 2) := by decide +kernel
theorem dX11_field_148 : decode cX11_field 148 = .ok (.iconst 0, 1) := by decide +kernel
theorem dX11_field_149 : decode cX11_field 149 = .ok (.invokevirtual 134, 3) := by decide +kernel
theorem dX11_field_90 : decode cX11_field 90 = .ok (.aload_n 0, 1) := by decide +kernel
theorem dX11_field_91 : decode cX11_field 91 = .ok (.bipush (-3), 2) := by decide +kernel
theorem dX11_field_93 : decode cX11_field 93 = .ok (.invokevirtual 59, 3) := by decide +kernel
theorem dX11_field_96 : decode cX11_field 96 = .ok (.ireturn, 1) := by decide +kernel
theorem dX11_force_0 : decode cX11_force 0 = .ok (.aload_n 0, 1) := by decide +kernel
theorem dX11_force_1 : decode cX11_force 1 = .ok (.getfield 12, 3) := by decide +kernel
theorem dX11_force_4 : decode cX11_force 4 = .ok (.getfield 219, 3) := by decide +kernel
theorem dX11_force_7 : decode cX11_force 7 = .ok (.astore 4, 2) := by decide +kernel
theorem dX11_force_9 : decode cX11_force 9 = .ok (.aload 4, 2) := by decide +kernel
theorem dX11_force_11 : decode cX11_force 11 = .ok (.iload_n 1, 1) := by decide +kernel
theorem dX11_force_12 : decode cX11_force 12 = .ok (.iload_n 2, 1) := by decide +kernel
theorem dX11_force_13 : decode cX11_force 13 = .ok (.invokevirtual 236, 3) := by decide +kernel
theorem dX2_has_0 : decode cX2_has 0 = .ok (.iload_n 1, 1) := by decide +kernel
theorem dX2_has_1 : decode cX2_has 1 = .ok (.ifCond .lt 11, 3) := by decide +kernel
theorem dX2_has_12 : decode cX2_has 12 = .ok (.iconst 0, 1) := by decide +kernel
theorem dX2_has_13 : decode cX2_has 13 = .ok (.ireturn, 1) := by decide +kernel
theorem dX2_has_4 : decode cX2_has 4 = .ok (.iload_n 1, 1) := by decide +kernel
theorem dX2_has_5 : decode cX2_has 5 = .ok (.aload_n 0, 1) := by decide +kernel
theorem dX2_has_6 : decode cX2_has 6 = .ok (.getfield 24, 3) := by decide +kernel
theorem dX2_has_9 : decode cX2_has 9 = .ok (.if_icmp .lt 5, 3) := by decide +kernel
theorem dX2_has_14 : decode cX2_has 14 = .ok (.aload_n 0, 1) := by decide +kernel
theorem dX2_has_15 : decode cX2_has 15 = .ok (.getfield 11, 3) := by decide +kernel
theorem dX2_has_18 : decode cX2_has 18 = .ok (.iload_n 1, 1) := by decide +kernel
theorem dX2_has_19 : decode cX2_has 19 = .ok (.aaload, 1) := by decide +kernel
theorem dX2_has_20 : decode cX2_has 20 = .ok (.astore_n 3, 1) := by decide +kernel
theorem dX2_has_21 : decode cX2_has 21 = .ok (.aload_n 3, 1) := by decide +kernel
theorem dX2_has_22 : decode cX2_has 22 = .ok (.ifnull 19, 3) := by decide +kernel
theorem dX2_has_41 : decode cX2_has 41 = .ok (.iconst 0, 1) := by decide +kernel
theorem dX2_has_42 : decode cX2_has 42 = .ok (.ireturn, 1) := by decide +kernel
theorem dX2_has_25 : decode cX2_has 25 = .ok (.iload_n 2, 1) := by decide +kernel
theorem dX2_has_26 : decode cX2_has 26 = .ok (.ifCond .lt 15, 3) := by decide +kernel
theorem dX2_has_29 : decode cX2_has 29 = .ok (.iload_n 2, 1) := by decide +kernel
theorem dX2_has_30 : decode cX2_has 30 = .ok (.aload_n 3, 1) := by decide +kernel
theorem dX2_has_31 : decode cX2_has 31 = .ok (.getfield 28, 3) := by decide +kernel
theorem dX2_has_34 : decode cX2_has 34 = .ok (.if_icmp .ge 7, 3) := by decide +kernel
theorem dX2_has_37 : decode cX2_has 37 = .ok (.iconst 1, 1) := by decide +kernel
theorem dX2_has_38 : decode cX2_has 38 = .ok (.goto 4, 3) := by decide +kernel
theorem dX11_force_16 : decode cX11_force 16 = .ok (.ifCond .eq 10, 3) := by decide +kernel
theorem dX11_force_26 : decode cX11_force 26 = .ok (.iconst (-1), 1) := by decide +kernel
theorem dX11_force_27 : decode cX11_force 27 = .ok (.ireturn, 1) := by decide +kernel
theorem dX11_force_19 : decode cX11_force 19 = .ok (.iload_n 3, 1) := by decide +kernel
theorem dX11_force_20 : decode cX11_force 20 = .ok (.invokestatic 191, 3) := by decide +kernel
theorem dX11_force_23 : decode cX11_force 23 = .ok (.ifCond .ne 5, 3) := by decide +kernel
theorem dX11_force_28 : decode cX11_force 28 = .ok (.aload 4, 2) := by decide +kernel
theorem dX11_force_30 : decode cX11_force 30 = .ok (.iload_n 3, 1) := by decide +kernel
theorem dX11_force_31 : decode cX11_force 31 = .ok (.invokevirtual 238, 3) := by decide +kernel
theorem dX11_force_34 : decode cX11_force 34 = .ok (.aload 4, 2) := by decide +kernel
theorem dX11_force_36 : decode cX11_force 36 = .ok (.iload_n 1, 1) := by decide +kernel
theorem dX11_force_37 : decode cX11_force 37 = .ok (.iload_n 2, 1) := by decide +kernel
theorem dX11_force_38 : decode cX11_force 38 = .ok (.invokevirtual 241, 3) := by decide +kernel
theorem dX11_force_41 : decode cX11_force 41 = .ok (.ifCond .eq 7, 3) := by decide +kernel
theorem dX11_force_48 : decode cX11_force 48 = .ok (.iconst 0, 1) := by decide +kernel
theorem dX11_force_44 : decode cX11_force 44 = .ok (.iconst 1, 1) := by decide +kernel
theorem dX11_force_45 : decode cX11_force 45 = .ok (.goto 4, 3) := by decide +kernel
theorem dX11_force_49 : decode cX11_force 49 = .ok (.ireturn, 1) := by decide +kernel
theorem dX11_found_0 : decode cX11_found 0 = .ok (.aload_n 0, 1) := by decide +kernel
theorem dX11_found_1 : decode cX11_found 1 = .ok (.getfield 12, 3) := by decide +kernel
theorem dX11_found_4 : decode cX11_found 4 = .ok (.getfield 114, 3) := by decide +kernel
theorem dX11_found_7 : decode cX11_found 7 = .ok (.invokevirtual 341, 3) := by decide +kernel
theorem dX1_findAltered_0 : decode cX1_findAltered 0 = .ok (.aload_n 0, 1) := by decide +kernel
theorem dX1_findAltered_1 : decode cX1_findAltered 1 = .ok (.getfield 42, 3) := by decide +kernel
theorem dX1_findAltered_4 : decode cX1_findAltered 4 = .ok (.iconst (-1), 1) := by decide +kernel
theorem dX1_findAltered_5 : decode cX1_findAltered 5 = .ok (.if_icmp .ne 6, 3) := by decide +kernel
theorem dX1_findAltered_11 : decode cX1_findAltered 11 = .ok (.aload_n 0, 1) := by decide +kernel
theorem dX1_findAltered_12 : decode cX1_findAltered 12 = .ok (.getfield 46, 3) := by decide +kernel
theorem dX1_findAltered_15 : decode cX1_findAltered 15 = .ok (.aload_n 0, 1) := by decide +kernel
theorem dX1_findAltered_16 : decode cX1_findAltered 16 = .ok (.getfield 42, 3) := by decide +kernel
theorem dX1_findAltered_19 : decode cX1_findAltered 19 = .ok (.if_icmp .le 6, 3) := by decide +kernel
theorem dX1_findAltered_25 : decode cX1_findAltered 25 = .ok (.aload_n 0, 1) := by decide +kernel
theorem dX1_findAltered_26 : decode cX1_findAltered 26 = .ok (.invokevirtual 58, 3) := by decide +kernel
theorem dX1_sumOfRents_0 : decode cX1_sumOfRents 0 = .ok (.lconst 0, 1) := by decide +kernel
theorem dX1_sumOfRents_1 : decode cX1_sumOfRents 1 = .ok (.lstore_n 1, 1) := by decide +kernel
theorem dX1_sumOfRents_2 : decode cX1_sumOfRents 2 = .ok (.iconst 0, 1) := by decide +kernel
theorem dX1_sumOfRents_3 : decode cX1_sumOfRents 3 = .ok (.istore_n 3, 1) := by decide +kernel
theorem dX1_sumOfRents_4 : decode cX1_sumOfRents 4 = .ok (.iload_n 3, 1) := by decide +kernel
theorem dX1_sumOfRents_5 : decode cX1_sumOfRents 5 = .ok (.aload_n 0, 1) := by decide +kernel
theorem dX1_sumOfRents_6 : decode cX1_sumOfRents 6 = .ok (.getfield 46, 3) := by decide +kernel
theorem dX1_sumOfRents_9 : decode cX1_sumOfRents 9 = .ok (.if_icmp .ge 19, 3) := by decide +kernel
theorem dX1_sumOfRents_12 : decode cX1_sumOfRents 12 = .ok (.lload_n 1, 1) := by decide +kernel
theorem dX1_sumOfRents_13 : decode cX1_sumOfRents 13 = .ok (.aload_n 0, 1) := by decide +kernel
theorem dX1_sumOfRents_14 : decode cX1_sumOfRents 14 = .ok (.getfield 18, 3) := by decide +kernel
theorem dX1_sumOfRents_17 : decode cX1_sumOfRents 17 = .ok (.iload_n 3, 1) := by decide +kernel
theorem dX1_sumOfRents_18 : decode cX1_sumOfRents 18 = .ok (.iaload, 1) := by decide +kernel
theorem dX1_sumOfRents_19 : decode cX1_sumOfRents 19 = .ok (.i2l, 1) := by decide +kernel
theorem dX1_sumOfRents_20 : decode cX1_sumOfRents 20 = .ok (.ladd, 1) := by decide +kernel
theorem dX1_sumOfRents_21 : decode cX1_sumOfRents 21 = .ok (.lstore_n 1, 1) := by decide +kernel
theorem dX1_sumOfRents_22 : decode cX1_sumOfRents 22 = .ok (.iinc 3 1, 3) := by decide +kernel
theorem dX1_sumOfRents_25 : decode cX1_sumOfRents 25 = .ok (.goto (-21), 3) := by decide +kernel
theorem dX1_sumOfRents_28 : decode cX1_sumOfRents 28 = .ok (.lload_n 1, 1) := by decide +kernel
theorem dX1_sumOfRents_29 : decode cX1_sumOfRents 29 = .ok (.lreturn, 1) := by decide +kernel
theorem dX1_findAltered_29 : decode cX1_findAltered 29 = .ok (.aload_n 0, 1) := by decide +kernel
theorem dX1_findAltered_30 : decode cX1_findAltered 30 = .ok (.getfield 62, 3) := by decide +kernel
theorem dX1_findAltered_33 : decode cX1_findAltered 33 = .ok (.lsub, 1) := by decide +kernel
theorem dX1_findAltered_34 : decode cX1_findAltered 34 = .ok (.lstore_n 1, 1) := by decide +kernel
theorem dX1_findAltered_35 : decode cX1_findAltered 35 = .ok (.aload_n 0, 1) := by decide +kernel
theorem dX1_findAltered_36 : decode cX1_findAltered 36 = .ok (.invokevirtual 66, 3) := by decide +kernel
theorem dX1_sumByPlace_0 : decode cX1_sumByPlace 0 = .ok (.lconst 0, 1) := by decide +kernel
theorem dX1_sumByPlace_1 : decode cX1_sumByPlace 1 = .ok (.lstore_n 1, 1) := by decide +kernel
theorem dX1_sumByPlace_2 : decode cX1_sumByPlace 2 = .ok (.iconst 0, 1) := by decide +kernel
theorem dX1_sumByPlace_3 : decode cX1_sumByPlace 3 = .ok (.istore_n 3, 1) := by decide +kernel
theorem dX1_sumByPlace_4 : decode cX1_sumByPlace 4 = .ok (.iload_n 3, 1) := by decide +kernel
theorem dX1_sumByPlace_5 : decode cX1_sumByPlace 5 = .ok (.aload_n 0, 1) := by decide +kernel
theorem dX1_sumByPlace_6 : decode cX1_sumByPlace 6 = .ok (.getfield 46, 3) := by decide +kernel
theorem dX1_sumByPlace_9 : decode cX1_sumByPlace 9 = .ok (.if_icmp .ge 24, 3) := by decide +kernel
theorem dX1_sumByPlace_12 : decode cX1_sumByPlace 12 = .ok (.lload_n 1, 1) := by decide +kernel
theorem dX1_sumByPlace_13 : decode cX1_sumByPlace 13 = .ok (.aload_n 0, 1) := by decide +kernel
theorem dX1_sumByPlace_14 : decode cX1_sumByPlace 14 = .ok (.getfield 18, 3) := by decide +kernel
theorem dX1_sumByPlace_17 : decode cX1_sumByPlace 17 = .ok (.iload_n 3, 1) := by decide +kernel
theorem dX1_sumByPlace_18 : decode cX1_sumByPlace 18 = .ok (.iaload, 1) := by decide +kernel
theorem dX1_sumByPlace_19 : decode cX1_sumByPlace 19 = .ok (.i2l, 1) := by decide +kernel
theorem dX1_sumByPlace_20 : decode cX1_sumByPlace 20 = .ok (.iload_n 3, 1) := by decide +kernel
theorem dX1_sumByPlace_21 : decode cX1_sumByPlace 21 = .ok (.iconst 1, 1) := by decide +kernel
theorem dX1_sumByPlace_22 : decode cX1_sumByPlace 22 = .ok (.iadd, 1) := by decide +kernel
theorem dX1_sumByPlace_23 : decode cX1_sumByPlace 23 = .ok (.i2l, 1) := by decide +kernel
theorem dX1_sumByPlace_24 : decode cX1_sumByPlace 24 = .ok (.lmul, 1) := by decide +kernel
theorem dX1_sumByPlace_25 : decode cX1_sumByPlace 25 = .ok (.ladd, 1) := by decide +kernel
theorem dX1_sumByPlace_26 : decode cX1_sumByPlace 26 = .ok (.lstore_n 1, 1) := by decide +kernel
theorem dX1_sumByPlace_27 : decode cX1_sumByPlace 27 = .ok (.iinc 3 1, 3) := by decide +kernel
theorem dX1_sumByPlace_30 : decode cX1_sumByPlace 30 = .ok (.goto (-26), 3) := by decide +kernel
theorem dX1_sumByPlace_33 : decode cX1_sumByPlace 33 = .ok (.lload_n 1, 1) := by decide +kernel
theorem dX1_sumByPlace_34 : decode cX1_sumByPlace 34 = .ok (.lreturn, 1) := by decide +kernel
theorem dX1_findAltered_39 : decode cX1_findAltered 39 = .ok (.aload_n 0, 1) := by decide +kernel
theorem dX1_findAltered_40 : decode cX1_findAltered 40 = .ok (.getfield 69, 3) := by decide +kernel
theorem dX1_findAltered_43 : decode cX1_findAltered 43 = .ok (.lsub, 1) := by decide +kernel
theorem dX1_findAltered_44 : decode cX1_findAltered 44 = .ok (.lstore_n 3, 1) := by decide +kernel
theorem dX1_findAltered_45 : decode cX1_findAltered 45 = .ok (.lload_n 1, 1) := by decide +kernel
theorem dX1_findAltered_46 : decode cX1_findAltered 46 = .ok (.lconst 0, 1) := by decide +kernel
theorem dX1_findAltered_47 : decode cX1_findAltered 47 = .ok (.lcmp, 1) := by decide +kernel
theorem dX1_findAltered_48 : decode cX1_findAltered 48 = .ok (.ifCond .ne 11, 3) := by decide +kernel
theorem dX1_findAltered_59 : decode cX1_findAltered 59 = .ok (.iconst 0, 1) := by decide +kernel
theorem dX1_findAltered_60 : decode cX1_findAltered 60 = .ok (.istore 5, 2) := by decide +kernel
theorem dX1_findAltered_62 : decode cX1_findAltered 62 = .ok (.iload 5, 2) := by decide +kernel
theorem dX1_findAltered_64 : decode cX1_findAltered 64 = .ok (.aload_n 0, 1) := by decide +kernel
theorem dX1_findAltered_65 : decode cX1_findAltered 65 = .ok (.getfield 46, 3) := by decide +kernel
theorem dX1_findAltered_68 : decode cX1_findAltered 68 = .ok (.if_icmp .ge 24, 3) := by decide +kernel
theorem dX1_findAltered_71 : decode cX1_findAltered 71 = .ok (.lload_n 1, 1) := by decide +kernel
theorem dX1_findAltered_72 : decode cX1_findAltered 72 = .ok (.iload 5, 2) := by decide +kernel
theorem dX1_findAltered_74 : decode cX1_findAltered 74 = .ok (.iconst 1, 1) := by decide +kernel
theorem dX1_findAltered_75 : decode cX1_findAltered 75 = .ok (.iadd, 1) := by decide +kernel
theorem dX1_findAltered_76 : decode cX1_findAltered 76 = .ok (.i2l, 1) := by decide +kernel
theorem dX1_findAltered_77 : decode cX1_findAltered 77 = .ok (.lmul, 1) := by decide +kernel
theorem dX1_findAltered_78 : decode cX1_findAltered 78 = .ok (.lload_n 3, 1) := by decide +kernel
theorem dX1_findAltered_79 : decode cX1_findAltered 79 = .ok (.lcmp, 1) := by decide +kernel
theorem dX1_findAltered_80 : decode cX1_findAltered 80 = .ok (.ifCond .ne 6, 3) := by decide +kernel
theorem dX1_findAltered_86 : decode cX1_findAltered 86 = .ok (.iinc 5 1, 3) := by decide +kernel
theorem dX1_findAltered_89 : decode cX1_findAltered 89 = .ok (.goto (-27), 3) := by decide +kernel
theorem dX1_findAltered_83 : decode cX1_findAltered 83 = .ok (.iload 5, 2) := by decide +kernel
theorem dX1_findAltered_85 : decode cX1_findAltered 85 = .ok (.ireturn, 1) := by decide +kernel
theorem dX1_findAltered_92 : decode cX1_findAltered 92 = .ok (.bipush (-2), 2) := by decide +kernel
theorem dX1_findAltered_94 : decode cX1_findAltered 94 = .ok (.ireturn, 1) := by decide +kernel
theorem dX1_findAltered_51 : decode cX1_findAltered 51 = .ok (.lload_n 3, 1) := by decide +kernel
theorem dX1_findAltered_52 : decode cX1_findAltered 52 = .ok (.lconst 0, 1) := by decide +kernel
theorem dX1_findAltered_53 : decode cX1_findAltered 53 = .ok (.lcmp, 1) := by decide +kernel
theorem dX1_findAltered_54 : decode cX1_findAltered 54 = .ok (.ifCond .ne 5, 3) := by decide +kernel
theorem dX1_findAltered_57 : decode cX1_findAltered 57 = .ok (.iconst (-1), 1) := by decide +kernel
theorem dX1_findAltered_58 : decode cX1_findAltered 58 = .ok (.ireturn, 1) := by decide +kernel
theorem dX1_findAltered_22 : decode cX1_findAltered 22 = .ok (.bipush (-2), 2) := by decide +kernel
theorem dX1_findAltered_24 : decode cX1_findAltered 24 = .ok (.ireturn, 1) := by decide +kernel
theorem dX1_findAltered_8 : decode cX1_findAltered 8 = .ok (.bipush (-3), 2) := by decide +kernel
theorem dX1_findAltered_10 : decode cX1_findAltered 10 = .ok (.ireturn, 1) := by decide +kernel
theorem dX11_found_10 : decode cX11_found 10 = .ok (.ireturn, 1) := by decide +kernel
theorem dX11_fund_0 : decode cX11_fund 0 = .ok (.aload_n 0, 1) := by decide +kernel
theorem dX11_fund_1 : decode cX11_fund 1 = .ok (.getfield 12, 3) := by decide +kernel
theorem dX11_fund_4 : decode cX11_fund 4 = .ok (.getfield 98, 3) := by decide +kernel
theorem dX11_fund_7 : decode cX11_fund 7 = .ok (.getfield 102, 3) := by decide +kernel
theorem dX11_fund_10 : decode cX11_fund 10 = .ok (.ireturn, 1) := by decide +kernel
theorem dX11_give_0 : decode cX11_give 0 = .ok (.iload_n 1, 1) := by decide +kernel
theorem dX11_give_1 : decode cX11_give 1 = .ok (.iconst 0, 1) := by decide +kernel
theorem dX11_give_2 : decode cX11_give 2 = .ok (.ldc 97, 2) := by decide +kernel
theorem dX11_give_4 : decode cX11_give 4 = .ok (.invokestatic 54, 3) := by decide +kernel
theorem dX11_give_7 : decode cX11_give 7 = .ok (.ifCond .ne 9, 3) := by decide +kernel
theorem dX11_give_16 : decode cX11_give 16 = .ok (.aload_n 0, 1) := by decide +kernel
theorem dX11_give_17 : decode cX11_give 17 = .ok (.getfield 12, 3) := by decide +kernel
theorem dX11_give_20 : decode cX11_give 20 = .ok (.getfield 98, 3) := by decide +kernel
theorem dX11_give_23 : decode cX11_give 23 = .ok (.astore_n 2, 1) := by decide +kernel
theorem dX11_give_24 : decode cX11_give 24 = .ok (.aload_n 2, 1) := by decide +kernel
theorem dX11_give_25 : decode cX11_give 25 = .ok (.aload_n 2, 1) := by decide +kernel
theorem dX11_give_26 : decode cX11_give 26 = .ok (.getfield 102, 3) := by decide +kernel
theorem dX11_give_29 : decode cX11_give 29 = .ok (.iload_n 1, 1) := by decide +kernel
theorem dX11_give_30 : decode cX11_give 30 = .ok (.iadd, 1) := by decide +kernel
theorem dX11_give_31 : decode cX11_give 31 = .ok (.ldc 107, 2) := by decide +kernel
theorem dX11_give_33 : decode cX11_give 33 = .ok (.invokestatic 108, 3) := by decide +kernel
theorem dX11_give_36 : decode cX11_give 36 = .ok (.putfield 102, 3) := by decide +kernel
theorem dX11_give_39 : decode cX11_give 39 = .ok (.aload_n 0, 1) := by decide +kernel
theorem dX11_give_40 : decode cX11_give 40 = .ok (.aload_n 2, 1) := by decide +kernel
theorem dX11_give_41 : decode cX11_give 41 = .ok (.getfield 102, 3) := by decide +kernel
theorem dX11_give_44 : decode cX11_give 44 = .ok (.invokevirtual 77, 3) := by decide +kernel
theorem dX11_give_47 : decode cX11_give 47 = .ok (.ireturn, 1) := by decide +kernel
theorem dX11_give_10 : decode cX11_give 10 = .ok (.aload_n 0, 1) := by decide +kernel
theorem dX11_give_11 : decode cX11_give 11 = .ok (.iconst (-1), 1) := by decide +kernel
theorem dX11_give_12 : decode cX11_give 12 = .ok (.invokevirtual 59, 3) := by decide +kernel
theorem dX11_give_15 : decode cX11_give 15 = .ok (.ireturn, 1) := by decide +kernel
theorem dX11_go_0 : decode cX11_go 0 = .ok (.aload_n 0, 1) := by decide +kernel
theorem dX11_go_1 : decode cX11_go 1 = .ok (.iload_n 1, 1) := by decide +kernel
theorem dX11_go_2 : decode cX11_go 2 = .ok (.invokevirtual 273, 3) := by decide +kernel
theorem dX11_go_5 : decode cX11_go 5 = .ok (.ifCond .ne 9, 3) := by decide +kernel
theorem dX11_go_14 : decode cX11_go 14 = .ok (.iconst 0, 1) := by decide +kernel
theorem dX11_go_15 : decode cX11_go 15 = .ok (.istore_n 2, 1) := by decide +kernel
theorem dX11_go_16 : decode cX11_go 16 = .ok (.iload_n 2, 1) := by decide +kernel
theorem dX11_go_17 : decode cX11_go 17 = .ok (.iload_n 1, 1) := by decide +kernel
theorem dX11_go_18 : decode cX11_go 18 = .ok (.if_icmp .ge 16, 3) := by decide +kernel
theorem dX11_go_21 : decode cX11_go 21 = .ok (.aload_n 0, 1) := by decide +kernel
theorem dX11_go_22 : decode cX11_go 22 = .ok (.getfield 12, 3) := by decide +kernel
theorem dX11_go_25 : decode cX11_go 25 = .ok (.invokevirtual 276, 3) := by decide +kernel
theorem dX11_go_28 : decode cX11_go 28 = .ok (.iinc 2 1, 3) := by decide +kernel
theorem dX11_go_31 : decode cX11_go 31 = .ok (.goto (-15), 3) := by decide +kernel
theorem dX11_go_34 : decode cX11_go 34 = .ok (.aload_n 0, 1) := by decide +kernel
theorem dX11_go_35 : decode cX11_go 35 = .ok (.aload_n 0, 1) := by decide +kernel
theorem dX11_go_36 : decode cX11_go 36 = .ok (.getfield 12, 3) := by decide +kernel
theorem dX11_go_39 : decode cX11_go 39 = .ok (.getfield 255, 3) := by decide +kernel
theorem dX11_go_42 : decode cX11_go 42 = .ok (.invokevirtual 77, 3) := by decide +kernel
theorem dX11_go_45 : decode cX11_go 45 = .ok (.ireturn, 1) := by decide +kernel
theorem dX11_go_8 : decode cX11_go 8 = .ok (.aload_n 0, 1) := by decide +kernel
theorem dX11_go_9 : decode cX11_go 9 = .ok (.iconst (-1), 1) := by decide +kernel
theorem dX11_go_10 : decode cX11_go 10 = .ok (.invokevirtual 59, 3) := by decide +kernel
theorem dX11_go_13 : decode cX11_go 13 = .ok (.ireturn, 1) := by decide +kernel
theorem dX11_goes_0 : decode cX11_goes 0 = .ok (.aload_n 0, 1) := by decide +kernel
theorem dX11_goes_1 : decode cX11_goes 1 = .ok (.getfield 12, 3) := by decide +kernel
theorem dX11_goes_4 : decode cX11_goes 4 = .ok (.getfield 63, 3) := by decide +kernel
theorem dX11_goes_7 : decode cX11_goes 7 = .ok (.astore_n 3, 1) := by decide +kernel
theorem dX11_goes_8 : decode cX11_goes 8 = .ok (.iload_n 2, 1) := by decide +kernel
theorem dX11_goes_9 : decode cX11_goes 9 = .ok (.iconst 0, 1) := by decide +kernel
theorem dX11_goes_10 : decode cX11_goes 10 = .ok (.iconst 4, 1) := by decide +kernel
theorem dX11_goes_11 : decode cX11_goes 11 = .ok (.invokestatic 54, 3) := by decide +kernel
theorem dX11_goes_14 : decode cX11_goes 14 = .ok (.ifCond .ne 9, 3) := by decide +kernel
theorem dX11_goes_23 : decode cX11_goes 23 = .ok (.aload_n 3, 1) := by decide +kernel
theorem dX11_goes_24 : decode cX11_goes 24 = .ok (.iload_n 1, 1) := by decide +kernel
theorem dX11_goes_25 : decode cX11_goes 25 = .ok (.invokevirtual 80, 3) := by decide +kernel
theorem dX11_goes_28 : decode cX11_goes 28 = .ok (.ifCond .ne 10, 3) := by decide +kernel
theorem dX11_goes_38 : decode cX11_goes 38 = .ok (.aload_n 3, 1) := by decide +kernel
theorem dX11_goes_39 : decode cX11_goes 39 = .ok (.getfield 87, 3) := by decide +kernel
theorem dX11_goes_42 : decode cX11_goes 42 = .ok (.iload_n 1, 1) := by decide +kernel
theorem dX11_goes_43 : decode cX11_goes 43 = .ok (.iaload, 1) := by decide +kernel
theorem dX11_goes_44 : decode cX11_goes 44 = .ok (.iconst 4, 1) := by decide +kernel
theorem dX11_goes_45 : decode cX11_goes 45 = .ok (.if_icmp .ne 10, 3) := by decide +kernel
theorem dX11_goes_55 : decode cX11_goes 55 = .ok (.aload_n 3, 1) := by decide +kernel
theorem dX11_goes_56 : decode cX11_goes 56 = .ok (.getfield 87, 3) := by decide +kernel
theorem dX11_goes_59 : decode cX11_goes 59 = .ok (.iload_n 1, 1) := by decide +kernel
theorem dX11_goes_60 : decode cX11_goes 60 = .ok (.iload_n 2, 1) := by decide +kernel
theorem dX11_goes_61 : decode cX11_goes 61 = .ok (.iastore, 1) := by decide +kernel
theorem dX11_goes_62 : decode cX11_goes 62 = .ok (.aload_n 0, 1) := by decide +kernel
theorem dX11_goes_63 : decode cX11_goes 63 = .ok (.iconst 0, 1) := by decide +kernel
theorem dX11_goes_64 : decode cX11_goes 64 = .ok (.invokevirtual 77, 3) := by decide +kernel
theorem dX11_goes_67 : decode cX11_goes 67 = .ok (.ireturn, 1) := by decide +kernel
theorem dX11_goes_48 : decode cX11_goes 48 = .ok (.aload_n 0, 1) := by decide +kernel
theorem dX11_goes_49 : decode cX11_goes 49 = .ok (.bipush (-3), 2) := by decide +kernel
theorem dX11_goes_51 : decode cX11_goes 51 = .ok (.invokevirtual 59, 3) := by decide +kernel
theorem dX11_goes_54 : decode cX11_goes 54 = .ok (.ireturn, 1) := by decide +kernel
theorem dX11_goes_31 : decode cX11_goes 31 = .ok (.aload_n 0, 1) := by decide +kernel
theorem dX11_goes_32 : decode cX11_goes 32 = .ok (.bipush (-2), 2) := by decide +kernel
theorem dX11_goes_34 : decode cX11_goes 34 = .ok (.invokevirtual 59, 3) := by decide +kernel
theorem dX11_goes_37 : decode cX11_goes 37 = .ok (.ireturn, 1) := by decide +kernel
theorem dX11_goes_17 : decode cX11_goes 17 = .ok (.aload_n 0, 1) := by decide +kernel
theorem dX11_goes_18 : decode cX11_goes 18 = .ok (.iconst (-1), 1) := by decide +kernel
theorem dX11_goes_19 : decode cX11_goes 19 = .ok (.invokevirtual 59, 3) := by decide +kernel
theorem dX11_goes_22 : decode cX11_goes 22 = .ok (.ireturn, 1) := by decide +kernel
theorem dX11_guard_0 : decode cX11_guard 0 = .ok (.aload_n 0, 1) := by decide +kernel
theorem dX11_guard_1 : decode cX11_guard 1 = .ok (.getfield 12, 3) := by decide +kernel
theorem dX11_guard_4 : decode cX11_guard 4 = .ok (.getfield 170, 3) := by decide +kernel
theorem dX11_guard_7 : decode cX11_guard 7 = .ok (.astore 4, 2) := by decide +kernel
theorem dX11_guard_9 : decode cX11_guard 9 = .ok (.iload_n 2, 1) := by decide +kernel
theorem dX11_guard_10 : decode cX11_guard 10 = .ok (.invokestatic 191, 3) := by decide +kernel
theorem dX11_guard_13 : decode cX11_guard 13 = .ok (.ifCond .eq 15, 3) := by decide +kernel
theorem dX11_guard_28 : decode cX11_guard 28 = .ok (.aload_n 0, 1) := by decide +kernel
theorem dX11_guard_29 : decode cX11_guard 29 = .ok (.iconst (-1), 1) := by decide +kernel
theorem dX11_guard_30 : decode cX11_guard 30 = .ok (.invokevirtual 59, 3) := by decide +kernel
theorem dX11_guard_33 : decode cX11_guard 33 = .ok (.ireturn, 1) := by decide +kernel
theorem dX11_guard_16 : decode cX11_guard 16 = .ok (.iload_n 3, 1) := by decide +kernel
theorem dX11_guard_17 : decode cX11_guard 17 = .ok (.invokestatic 191, 3) := by decide +kernel
theorem dX11_guard_20 : decode cX11_guard 20 = .ok (.ifCond .eq 8, 3) := by decide +kernel
theorem dX11_guard_23 : decode cX11_guard 23 = .ok (.iload_n 2, 1) := by decide +kernel
theorem dX11_guard_24 : decode cX11_guard 24 = .ok (.iload_n 3, 1) := by decide +kernel
theorem dX11_guard_25 : decode cX11_guard 25 = .ok (.if_icmp .le 9, 3) := by decide +kernel
theorem dX11_guard_34 : decode cX11_guard 34 = .ok (.aload_n 0, 1) := by decide +kernel
theorem dX11_guard_35 : decode cX11_guard 35 = .ok (.getfield 12, 3) := by decide +kernel
theorem dX11_guard_38 : decode cX11_guard 38 = .ok (.getfield 114, 3) := by decide +kernel
theorem dX11_guard_41 : decode cX11_guard 41 = .ok (.iload_n 1, 1) := by decide +kernel
theorem dX11_guard_42 : decode cX11_guard 42 = .ok (.invokevirtual 150, 3) := by decide +kernel
theorem dX11_guard_45 : decode cX11_guard 45 = .ok (.ifCond .ne 10, 3) := by decide +kernel
theorem dX11_guard_55 : decode cX11_guard 55 = .ok (.aload 4, 2) := by decide +kernel
theorem dX11_guard_57 : decode cX11_guard 57 = .ok (.getfield 264, 3) := by decide +kernel
theorem dX11_guard_60 : decode cX11_guard 60 = .ok (.bipush 40, 2) := by decide +kernel
theorem dX11_guard_62 : decode cX11_guard 62 = .ok (.if_icmp .lt 10, 3) := by decide +kernel
theorem dX11_guard_72 : decode cX11_guard 72 = .ok (.aload 4, 2) := by decide +kernel
theorem dX11_guard_74 : decode cX11_guard 74 = .ok (.iload_n 1, 1) := by decide +kernel
theorem dX11_guard_75 : decode cX11_guard 75 = .ok (.iload_n 2, 1) := by decide +kernel
theorem dX11_guard_76 : decode cX11_guard 76 = .ok (.iload_n 3, 1) := by decide +kernel
theorem dX11_guard_77 : decode cX11_guard 77 = .ok (.invokevirtual 267, 3) := by decide +kernel
theorem dX11_guard_80 : decode cX11_guard 80 = .ok (.aload_n 0, 1) := by decide +kernel
theorem dX11_guard_81 : decode cX11_guard 81 = .ok (.aload 4, 2) := by decide +kernel
theorem dX11_guard_83 : decode cX11_guard 83 = .ok (.getfield 264, 3) := by decide +kernel
theorem dX11_guard_86 : decode cX11_guard 86 = .ok (.invokevirtual 77, 3) := by decide +kernel
theorem dX11_guard_89 : decode cX11_guard 89 = .ok (.ireturn, 1) := by decide +kernel
theorem dX11_guard_65 : decode cX11_guard 65 = .ok (.aload_n 0, 1) := by decide +kernel
theorem dX11_guard_66 : decode cX11_guard 66 = .ok (.bipush (-5), 2) := by decide +kernel
theorem dX11_guard_68 : decode cX11_guard 68 = .ok (.invokevirtual 59, 3) := by decide +kernel
theorem dX11_guard_71 : decode cX11_guard 71 = .ok (.ireturn, 1) := by decide +kernel
theorem dX11_guard_48 : decode cX11_guard 48 = .ok (.aload_n 0, 1) := by decide +kernel
theorem dX11_guard_49 : decode cX11_guard 49 = .ok (.bipush (-2), 2) := by decide +kernel
theorem dX11_guard_51 : decode cX11_guard 51 = .ok (.invokevirtual 59, 3) := by decide +kernel
theorem dX11_guard_54 : decode cX11_guard 54 = .ok (.ireturn, 1) := by decide +kernel
theorem dX11_heed_0 : decode cX11_heed 0 = .ok (.aload_n 0, 1) := by decide +kernel
theorem dX11_heed_1 : decode cX11_heed 1 = .ok (.getfield 12, 3) := by decide +kernel
theorem dX11_heed_4 : decode cX11_heed 4 = .ok (.getfield 63, 3) := by decide +kernel
theorem dX11_heed_7 : decode cX11_heed 7 = .ok (.astore_n 3, 1) := by decide +kernel
theorem dX11_heed_8 : decode cX11_heed 8 = .ok (.aload_n 3, 1) := by decide +kernel
theorem dX11_heed_9 : decode cX11_heed 9 = .ok (.iload_n 1, 1) := by decide +kernel
theorem dX11_heed_10 : decode cX11_heed 10 = .ok (.invokevirtual 80, 3) := by decide +kernel
theorem dX11_heed_13 : decode cX11_heed 13 = .ok (.ifCond .eq 16, 3) := by decide +kernel
theorem dX11_heed_29 : decode cX11_heed 29 = .ok (.aload_n 0, 1) := by decide +kernel
theorem dX11_heed_30 : decode cX11_heed 30 = .ok (.bipush (-2), 2) := by decide +kernel
theorem dX11_heed_32 : decode cX11_heed 32 = .ok (.invokevirtual 59, 3) := by decide +kernel
theorem dX11_heed_35 : decode cX11_heed 35 = .ok (.ireturn, 1) := by decide +kernel
theorem dX11_heed_16 : decode cX11_heed 16 = .ok (.iload_n 2, 1) := by decide +kernel
theorem dX11_heed_17 : decode cX11_heed 17 = .ok (.iconst (-1), 1) := by decide +kernel
theorem dX11_heed_18 : decode cX11_heed 18 = .ok (.if_icmp .eq 18, 3) := by decide +kernel
theorem dX11_heed_36 : decode cX11_heed 36 = .ok (.iload_n 1, 1) := by decide +kernel
theorem dX11_heed_37 : decode cX11_heed 37 = .ok (.iload_n 2, 1) := by decide +kernel
theorem dX11_heed_38 : decode cX11_heed 38 = .ok (.if_icmp .ne 10, 3) := by decide +kernel
theorem dX11_heed_48 : decode cX11_heed 48 = .ok (.aload_n 3, 1) := by decide +kernel
theorem dX11_heed_49 : decode cX11_heed 49 = .ok (.getfield 84, 3) := by decide +kernel
theorem dX11_heed_52 : decode cX11_heed 52 = .ok (.iload_n 1, 1) := by decide +kernel
theorem dX11_heed_53 : decode cX11_heed 53 = .ok (.iload_n 2, 1) := by decide +kernel
theorem dX11_heed_54 : decode cX11_heed 54 = .ok (.iastore, 1) := by decide +kernel
theorem dX11_heed_55 : decode cX11_heed 55 = .ok (.aload_n 0, 1) := by decide +kernel
theorem dX11_heed_56 : decode cX11_heed 56 = .ok (.iconst 0, 1) := by decide +kernel
theorem dX11_heed_57 : decode cX11_heed 57 = .ok (.invokevirtual 77, 3) := by decide +kernel
theorem dX11_heed_60 : decode cX11_heed 60 = .ok (.ireturn, 1) := by decide +kernel
theorem dX11_heed_21 : decode cX11_heed 21 = .ok (.aload_n 3, 1) := by decide +kernel
theorem dX11_heed_22 : decode cX11_heed 22 = .ok (.iload_n 2, 1) := by decide +kernel
theorem dX11_heed_23 : decode cX11_heed 23 = .ok (.invokevirtual 80, 3) := by decide +kernel
theorem dX11_heed_26 : decode cX11_heed 26 = .ok (.ifCond .ne 10, 3) := by decide +kernel
theorem dX11_heed_41 : decode cX11_heed 41 = .ok (.aload_n 0, 1) := by decide +kernel
theorem dX11_heed_42 : decode cX11_heed 42 = .ok (.bipush (-3), 2) := by decide +kernel
theorem dX11_heed_44 : decode cX11_heed 44 = .ok (.invokevirtual 59, 3) := by decide +kernel
theorem dX11_heed_47 : decode cX11_heed 47 = .ok (.ireturn, 1) := by decide +kernel
theorem dX11_holds_0 : decode cX11_holds 0 = .ok (.aload_n 0, 1) := by decide +kernel
theorem dX11_holds_1 : decode cX11_holds 1 = .ok (.getfield 12, 3) := by decide +kernel
theorem dX11_holds_4 : decode cX11_holds 4 = .ok (.getfield 219, 3) := by decide +kernel
theorem dX11_holds_7 : decode cX11_holds 7 = .ok (.iload_n 1, 1) := by decide +kernel
theorem dX11_holds_8 : decode cX11_holds 8 = .ok (.iload_n 2, 1) := by decide +kernel
theorem dX11_holds_9 : decode cX11_holds 9 = .ok (.invokevirtual 236, 3) := by decide +kernel
theorem dX11_holds_12 : decode cX11_holds 12 = .ok (.ifCond .eq 43, 3) := by decide +kernel
theorem dX11_holds_55 : decode cX11_holds 55 = .ok (.iconst (-1), 1) := by decide +kernel
theorem dX11_holds_56 : decode cX11_holds 56 = .ok (.ireturn, 1) := by decide +kernel
theorem dX11_holds_15 : decode cX11_holds 15 = .ok (.iload_n 3, 1) := by decide +kernel
theorem dX11_holds_16 : decode cX11_holds 16 = .ok (.iconst (-1), 1) := by decide +kernel
theorem dX11_holds_17 : decode cX11_holds 17 = .ok (.if_icmp .eq 17, 3) := by decide +kernel
theorem dX11_holds_34 : decode cX11_holds 34 = .ok (.iload 4, 2) := by decide +kernel
theorem dX11_holds_36 : decode cX11_holds 36 = .ok (.iconst (-1), 1) := by decide +kernel
theorem dX11_holds_37 : decode cX11_holds 37 = .ok (.if_icmp .eq 20, 3) := by decide +kernel
theorem dX11_holds_57 : decode cX11_holds 57 = .ok (.aload_n 0, 1) := by decide +kernel
theorem dX11_holds_58 : decode cX11_holds 58 = .ok (.getfield 12, 3) := by decide +kernel
theorem dX11_holds_61 : decode cX11_holds 61 = .ok (.invokevirtual 151, 3) := by decide +kernel
theorem dX11_holds_64 : decode cX11_holds 64 = .ok (.aload_n 0, 1) := by decide +kernel
theorem dX11_holds_65 : decode cX11_holds 65 = .ok (.getfield 12, 3) := by decide +kernel
theorem dX11_holds_68 : decode cX11_holds 68 = .ok (.iload_n 1, 1) := by decide +kernel
theorem dX11_holds_69 : decode cX11_holds 69 = .ok (.iload_n 2, 1) := by decide +kernel
theorem dX11_holds_70 : decode cX11_holds 70 = .ok (.iload_n 3, 1) := by decide +kernel
theorem dX11_holds_71 : decode cX11_holds 71 = .ok (.iload 4, 2) := by decide +kernel
theorem dX11_holds_73 : decode cX11_holds 73 = .ok (.invokevirtual 244, 3) := by decide +kernel
theorem dX11_holds_76 : decode cX11_holds 76 = .ok (.ifCond .eq 7, 3) := by decide +kernel
theorem dX11_holds_83 : decode cX11_holds 83 = .ok (.iconst 0, 1) := by decide +kernel
theorem dX11_holds_79 : decode cX11_holds 79 = .ok (.iconst 1, 1) := by decide +kernel
theorem dX11_holds_80 : decode cX11_holds 80 = .ok (.goto 4, 3) := by decide +kernel
theorem dX11_holds_84 : decode cX11_holds 84 = .ok (.ireturn, 1) := by decide +kernel
theorem dX11_holds_40 : decode cX11_holds 40 = .ok (.aload_n 0, 1) := by decide +kernel
theorem dX11_holds_41 : decode cX11_holds 41 = .ok (.getfield 12, 3) := by decide +kernel
theorem dX11_holds_44 : decode cX11_holds 44 = .ok (.getfield 114, 3) := by decide +kernel
theorem dX11_holds_47 : decode cX11_holds 47 = .ok (.iload 4, 2) := by decide +kernel
theorem dX11_holds_49 : decode cX11_holds 49 = .ok (.invokevirtual 150, 3) := by decide +kernel
theorem dX11_holds_52 : decode cX11_holds 52 = .ok (.ifCond .ne 5, 3) := by decide +kernel
theorem dX11_holds_20 : decode cX11_holds 20 = .ok (.aload_n 0, 1) := by decide +kernel
theorem dX11_holds_21 : decode cX11_holds 21 = .ok (.getfield 12, 3) := by decide +kernel
theorem dX11_holds_24 : decode cX11_holds 24 = .ok (.getfield 63, 3) := by decide +kernel
theorem dX11_holds_27 : decode cX11_holds 27 = .ok (.iload_n 3, 1) := by decide +kernel
theorem dX11_holds_28 : decode cX11_holds 28 = .ok (.invokevirtual 80, 3) := by decide +kernel
theorem dX11_holds_31 : decode cX11_holds 31 = .ok (.ifCond .eq 24, 3) := by decide +kernel
theorem dX11_image_0 : decode cX11_image 0 = .ok (.iload_n 1, 1) := by decide +kernel
theorem dX11_image_1 : decode cX11_image 1 = .ok (.iconst 0, 1) := by decide +kernel
theorem dX11_image_2 : decode cX11_image 2 = .ok (.iconst 1, 1) := by decide +kernel
theorem dX11_image_3 : decode cX11_image 3 = .ok (.invokestatic 54, 3) := by decide +kernel
theorem dX11_image_6 : decode cX11_image 6 = .ok (.ifCond .ne 9, 3) := by decide +kernel
theorem dX11_image_15 : decode cX11_image 15 = .ok (.iload_n 1, 1) := by decide +kernel
theorem dX11_image_16 : decode cX11_image 16 = .ok (.ifCond .ne 22, 3) := by decide +kernel
theorem dX11_image_38 : decode cX11_image 38 = .ok (.aload_n 0, 1) := by decide +kernel
theorem dX11_image_39 : decode cX11_image 39 = .ok (.getfield 24, 3) := by decide +kernel
theorem dX11_image_42 : decode cX11_image 42 = .ok (.aload_n 0, 1) := by decide +kernel
theorem dX11_image_43 : decode cX11_image 43 = .ok (.getfield 12, 3) := by decide +kernel
theorem dX11_image_46 : decode cX11_image 46 = .ok (.invokevirtual 345, 3) := by decide +kernel
theorem dX11_image_49 : decode cX11_image 49 = .ok (.aload_n 0, 1) := by decide +kernel
theorem dX11_image_50 : decode cX11_image 50 = .ok (.iconst 1, 1) := by decide +kernel
theorem dX11_image_51 : decode cX11_image 51 = .ok (.putfield 353, 3) := by decide +kernel
theorem dX11_image_19 : decode cX11_image 19 = .ok (.aload_n 0, 1) := by decide +kernel
theorem dX11_image_20 : decode cX11_image 20 = .ok (.getfield 21, 3) := by decide +kernel
theorem dX11_image_23 : decode cX11_image 23 = .ok (.aload_n 0, 1) := by decide +kernel
theorem dX11_image_24 : decode cX11_image 24 = .ok (.getfield 12, 3) := by decide +kernel
theorem dX11_image_27 : decode cX11_image 27 = .ok (.invokevirtual 345, 3) := by decide +kernel
theorem dX11_image_30 : decode cX11_image 30 = .ok (.aload_n 0, 1) := by decide +kernel
theorem dX11_image_31 : decode cX11_image 31 = .ok (.iconst 1, 1) := by decide +kernel
theorem dX11_image_32 : decode cX11_image 32 = .ok (.putfield 349, 3) := by decide +kernel
theorem dX11_image_35 : decode cX11_image 35 = .ok (.goto 19, 3) := by decide +kernel
theorem dX11_image_54 : decode cX11_image 54 = .ok (.aload_n 0, 1) := by decide +kernel
theorem dX11_image_55 : decode cX11_image 55 = .ok (.iconst 0, 1) := by decide +kernel
theorem dX11_image_56 : decode cX11_image 56 = .ok (.invokevirtual 77, 3) := by decide +kernel
theorem dX11_image_59 : decode cX11_image 59 = .ok (.ireturn, 1) := by decide +kernel
theorem dX11_image_9 : decode cX11_image 9 = .ok (.aload_n 0, 1) := by decide +kernel
theorem dX11_image_10 : decode cX11_image 10 = .ok (.iconst (-1), 1) := by decide +kernel
theorem dX11_image_11 : decode cX11_image 11 = .ok (.invokevirtual 59, 3) := by decide +kernel
theorem dX11_image_14 : decode cX11_image 14 = .ok (.ireturn, 1) := by decide +kernel
theorem dX11_isWished_0 : decode cX11_isWished 0 = .ok (.iconst 0, 1) := by decide +kernel
theorem dX11_isWished_1 : decode cX11_isWished 1 = .ok (.istore_n 2, 1) := by decide +kernel
theorem dX11_isWished_2 : decode cX11_isWished 2 = .ok (.iload_n 2, 1) := by decide +kernel
theorem dX11_isWished_3 : decode cX11_isWished 3 = .ok (.aload_n 0, 1) := by decide +kernel
theorem dX11_isWished_4 : decode cX11_isWished 4 = .ok (.getfield 309, 3) := by decide +kernel
theorem dX11_isWished_7 : decode cX11_isWished 7 = .ok (.if_icmp .ge 21, 3) := by decide +kernel
theorem dX11_isWished_10 : decode cX11_isWished 10 = .ok (.aload_n 0, 1) := by decide +kernel
theorem dX11_isWished_11 : decode cX11_isWished 11 = .ok (.getfield 41, 3) := by decide +kernel
theorem dX11_isWished_14 : decode cX11_isWished 14 = .ok (.iload_n 2, 1) := by decide +kernel
theorem dX11_isWished_15 : decode cX11_isWished 15 = .ok (.iaload, 1) := by decide +kernel
theorem dX11_isWished_16 : decode cX11_isWished 16 = .ok (.iload_n 1, 1) := by decide +kernel
theorem dX11_isWished_17 : decode cX11_isWished 17 = .ok (.if_icmp .ne 5, 3) := by decide +kernel
theorem dX11_isWished_22 : decode cX11_isWished 22 = .ok (.iinc 2 1, 3) := by decide +kernel
theorem dX11_isWished_25 : decode cX11_isWished 25 = .ok (.goto (-23), 3) := by decide +kernel
theorem dX11_isWished_20 : decode cX11_isWished 20 = .ok (.iconst 1, 1) := by decide +kernel
theorem dX11_isWished_21 : decode cX11_isWished 21 = .ok (.ireturn, 1) := by decide +kernel
theorem dX11_isWished_28 : decode cX11_isWished 28 = .ok (.iconst 0, 1) := by decide +kernel
theorem dX11_isWished_29 : decode cX11_isWished 29 = .ok (.ireturn, 1) := by decide +kernel
theorem dX11_judge_0 : decode cX11_judge 0 = .ok (.aload_n 0, 1) := by decide +kernel
theorem dX11_judge_1 : decode cX11_judge 1 = .ok (.iload_n 2, 1) := by decide +kernel
theorem dX11_judge_2 : decode cX11_judge 2 = .ok (.invokevirtual 315, 3) := by decide +kernel
theorem dX11_judge_5 : decode cX11_judge 5 = .ok (.ifCond .eq 19, 3) := by decide +kernel
theorem dX11_judge_24 : decode cX11_judge 24 = .ok (.iconst (-1), 1) := by decide +kernel
theorem dX11_judge_25 : decode cX11_judge 25 = .ok (.ireturn, 1) := by decide +kernel
theorem dX11_judge_8 : decode cX11_judge 8 = .ok (.iload_n 1, 1) := by decide +kernel
theorem dX11_judge_9 : decode cX11_judge 9 = .ok (.iconst 0, 1) := by decide +kernel
theorem dX11_judge_10 : decode cX11_judge 10 = .ok (.iconst 1, 1) := by decide +kernel
theorem dX11_judge_11 : decode cX11_judge 11 = .ok (.aload_n 0, 1) := by decide +kernel
theorem dX11_judge_12 : decode cX11_judge 12 = .ok (.getfield 309, 3) := by decide +kernel
theorem dX11_judge_15 : decode cX11_judge 15 = .ok (.ishl, 1) := by decide +kernel
theorem dX11_judge_16 : decode cX11_judge 16 = .ok (.iconst 1, 1) := by decide +kernel
theorem dX11_judge_17 : decode cX11_judge 17 = .ok (.isub, 1) := by decide +kernel
theorem dX11_judge_18 : decode cX11_judge 18 = .ok (.invokestatic 54, 3) := by decide +kernel
theorem dX11_judge_21 : decode cX11_judge 21 = .ok (.ifCond .ne 5, 3) := by decide +kernel
theorem dX11_judge_26 : decode cX11_judge 26 = .ok (.aload_n 0, 1) := by decide +kernel
theorem dX11_judge_27 : decode cX11_judge 27 = .ok (.iload_n 1, 1) := by decide +kernel
theorem dX11_judge_28 : decode cX11_judge 28 = .ok (.iload_n 2, 1) := by decide +kernel
theorem dX11_judge_29 : decode cX11_judge 29 = .ok (.bipush 41, 2) := by decide +kernel
theorem dX11_judge_31 : decode cX11_judge 31 = .ok (.invokevirtual 326, 3) := by decide +kernel
theorem dX11_judge_34 : decode cX11_judge 34 = .ok (.ireturn, 1) := by decide +kernel
theorem dX11_keepRow_0 : decode cX11_keepRow 0 = .ok (.aload_n 0, 1) := by decide +kernel
theorem dX11_keepRow_1 : decode cX11_keepRow 1 = .ok (.getfield 12, 3) := by decide +kernel
theorem dX11_keepRow_4 : decode cX11_keepRow 4 = .ok (.getfield 114, 3) := by decide +kernel
theorem dX11_keepRow_7 : decode cX11_keepRow 7 = .ok (.astore_n 3, 1) := by decide +kernel
theorem dX11_keepRow_8 : decode cX11_keepRow 8 = .ok (.new 366, 3) := by decide +kernel
theorem dX11_keeps_0 : decode cX11_keeps 0 = .ok (.aload_n 0, 1) := by decide +kernel
theorem dX11_keeps_1 : decode cX11_keeps 1 = .ok (.getfield 12, 3) := by decide +kernel
theorem dX11_keeps_4 : decode cX11_keeps 4 = .ok (.getfield 63, 3) := by decide +kernel
theorem dX11_keeps_7 : decode cX11_keeps 7 = .ok (.astore_n 3, 1) := by decide +kernel
theorem dX11_keeps_8 : decode cX11_keeps 8 = .ok (.aload_n 3, 1) := by decide +kernel
theorem dX11_keeps_9 : decode cX11_keeps 9 = .ok (.iload_n 1, 1) := by decide +kernel
theorem dX11_keeps_10 : decode cX11_keeps 10 = .ok (.invokevirtual 80, 3) := by decide +kernel
theorem dX11_keeps_13 : decode cX11_keeps 13 = .ok (.ifCond .eq 16, 3) := by decide +kernel
theorem dX11_keeps_29 : decode cX11_keeps 29 = .ok (.iconst (-1), 1) := by decide +kernel
theorem dX11_keeps_30 : decode cX11_keeps 30 = .ok (.ireturn, 1) := by decide +kernel
theorem dX11_keeps_16 : decode cX11_keeps 16 = .ok (.aload_n 3, 1) := by decide +kernel
theorem dX11_keeps_17 : decode cX11_keeps 17 = .ok (.iload_n 2, 1) := by decide +kernel
theorem dX11_keeps_18 : decode cX11_keeps 18 = .ok (.invokevirtual 80, 3) := by decide +kernel
theorem dX11_keeps_21 : decode cX11_keeps 21 = .ok (.ifCond .eq 8, 3) := by decide +kernel
theorem dX11_keeps_24 : decode cX11_keeps 24 = .ok (.iload_n 1, 1) := by decide +kernel
theorem dX11_keeps_25 : decode cX11_keeps 25 = .ok (.iload_n 2, 1) := by decide +kernel
theorem dX11_keeps_26 : decode cX11_keeps 26 = .ok (.if_icmp .ne 5, 3) := by decide +kernel
theorem dX11_keeps_31 : decode cX11_keeps 31 = .ok (.aload_n 3, 1) := by decide +kernel
theorem dX11_keeps_32 : decode cX11_keeps 32 = .ok (.iload_n 1, 1) := by decide +kernel
theorem dX11_keeps_33 : decode cX11_keeps 33 = .ok (.iload_n 2, 1) := by decide +kernel
theorem dX11_keeps_34 : decode cX11_keeps 34 = .ok (.aload_n 0, 1) := by decide +kernel
theorem dX11_keeps_35 : decode cX11_keeps 35 = .ok (.getfield 12, 3) := by decide +kernel
theorem dX11_keeps_38 : decode cX11_keeps 38 = .ok (.getfield 98, 3) := by decide +kernel
theorem dX11_keeps_41 : decode cX11_keeps 41 = .ok (.getfield 282, 3) := by decide +kernel
theorem dX11_keeps_44 : decode cX11_keeps 44 = .ok (.invokevirtual 285, 3) := by decide +kernel
theorem dX11_keeps_47 : decode cX11_keeps 47 = .ok (.ifCond .eq 7, 3) := by decide +kernel
theorem dX11_keeps_54 : decode cX11_keeps 54 = .ok (.iconst 0, 1) := by decide +kernel
theorem dX11_keeps_50 : decode cX11_keeps 50 = .ok (.iconst 1, 1) := by decide +kernel
theorem dX11_keeps_51 : decode cX11_keeps 51 = .ok (.goto 4, 3) := by decide +kernel
theorem dX11_keeps_55 : decode cX11_keeps 55 = .ok (.ireturn, 1) := by decide +kernel
theorem dX11_last_0 : decode cX11_last 0 = .ok (.iload_n 1, 1) := by decide +kernel
theorem dX11_last_1 : decode cX11_last 1 = .ok (.iconst 1, 1) := by decide +kernel
theorem dX11_last_2 : decode cX11_last 2 = .ok (.sipush 10000, 3) := by decide +kernel
theorem dX11_last_5 : decode cX11_last 5 = .ok (.invokestatic 54, 3) := by decide +kernel
theorem dX11_last_8 : decode cX11_last 8 = .ok (.ifCond .eq 25, 3) := by decide +kernel
theorem dX11_last_33 : decode cX11_last 33 = .ok (.iconst (-1), 1) := by decide +kernel
theorem dX11_last_34 : decode cX11_last 34 = .ok (.ireturn, 1) := by decide +kernel
theorem dX11_last_11 : decode cX11_last 11 = .ok (.iload_n 2, 1) := by decide +kernel
theorem dX11_last_12 : decode cX11_last 12 = .ok (.iconst 0, 1) := by decide +kernel
theorem dX11_last_13 : decode cX11_last 13 = .ok (.sipush 1000, 3) := by decide +kernel
theorem dX11_last_16 : decode cX11_last 16 = .ok (.invokestatic 54, 3) := by decide +kernel
theorem dX11_last_19 : decode cX11_last 19 = .ok (.ifCond .eq 14, 3) := by decide +kernel
theorem dX11_last_22 : decode cX11_last 22 = .ok (.iload_n 3, 1) := by decide +kernel
theorem dX11_last_23 : decode cX11_last 23 = .ok (.iconst 0, 1) := by decide +kernel
theorem dX11_last_24 : decode cX11_last 24 = .ok (.sipush 1000, 3) := by decide +kernel
theorem dX11_last_27 : decode cX11_last 27 = .ok (.invokestatic 54, 3) := by decide +kernel
theorem dX11_last_30 : decode cX11_last 30 = .ok (.ifCond .ne 5, 3) := by decide +kernel
theorem dX11_last_35 : decode cX11_last 35 = .ok (.aload_n 0, 1) := by decide +kernel
theorem dX11_last_36 : decode cX11_last 36 = .ok (.getfield 12, 3) := by decide +kernel
theorem dX11_last_39 : decode cX11_last 39 = .ok (.getfield 98, 3) := by decide +kernel
theorem dX11_last_42 : decode cX11_last 42 = .ok (.getfield 102, 3) := by decide +kernel
theorem dX11_last_45 : decode cX11_last 45 = .ok (.i2l, 1) := by decide +kernel
theorem dX11_last_46 : decode cX11_last 46 = .ok (.lstore 4, 2) := by decide +kernel
theorem dX11_last_48 : decode cX11_last 48 = .ok (.iload_n 2, 1) := by decide +kernel
theorem dX11_last_49 : decode cX11_last 49 = .ok (.i2l, 1) := by decide +kernel
theorem dX11_last_50 : decode cX11_last 50 = .ok (.lstore 6, 2) := by decide +kernel
theorem dX11_last_52 : decode cX11_last 52 = .ok (.iconst 0, 1) := by decide +kernel
theorem dX11_last_53 : decode cX11_last 53 = .ok (.istore 8, 2) := by decide +kernel
theorem dX11_last_55 : decode cX11_last 55 = .ok (.iload 8, 2) := by decide +kernel
theorem dX11_last_57 : decode cX11_last 57 = .ok (.sipush 400, 3) := by decide +kernel
theorem dX11_last_60 : decode cX11_last 60 = .ok (.if_icmp .ge 36, 3) := by decide +kernel
theorem dX11_last_63 : decode cX11_last 63 = .ok (.lload 4, 2) := by decide +kernel
theorem dX11_last_65 : decode cX11_last 65 = .ok (.iload_n 1, 1) := by decide +kernel
theorem dX11_last_66 : decode cX11_last 66 = .ok (.i2l, 1) := by decide +kernel
theorem dX11_last_67 : decode cX11_last 67 = .ok (.lload 6, 2) := by decide +kernel
theorem dX11_last_69 : decode cX11_last 69 = .ok (.lmul, 1) := by decide +kernel
theorem dX11_last_70 : decode cX11_last 70 = .ok (.lsub, 1) := by decide +kernel
theorem dX11_last_71 : decode cX11_last 71 = .ok (.lstore 4, 2) := by decide +kernel
theorem dX11_last_73 : decode cX11_last 73 = .ok (.lload 4, 2) := by decide +kernel
theorem dX11_last_75 : decode cX11_last 75 = .ok (.lconst 0, 1) := by decide +kernel
theorem dX11_last_76 : decode cX11_last 76 = .ok (.lcmp, 1) := by decide +kernel
theorem dX11_last_77 : decode cX11_last 77 = .ok (.ifCond .ge 6, 3) := by decide +kernel
theorem dX11_last_83 : decode cX11_last 83 = .ok (.lload 6, 2) := by decide +kernel
theorem dX11_last_85 : decode cX11_last 85 = .ok (.iload_n 3, 1) := by decide +kernel
theorem dX11_last_86 : decode cX11_last 86 = .ok (.i2l, 1) := by decide +kernel
theorem dX11_last_87 : decode cX11_last 87 = .ok (.ladd, 1) := by decide +kernel
theorem dX11_last_88 : decode cX11_last 88 = .ok (.lstore 6, 2) := by decide +kernel
theorem dX11_last_90 : decode cX11_last 90 = .ok (.iinc 8 1, 3) := by decide +kernel
theorem dX11_last_93 : decode cX11_last 93 = .ok (.goto (-38), 3) := by decide +kernel
theorem dX11_last_80 : decode cX11_last 80 = .ok (.iload 8, 2) := by decide +kernel
theorem dX11_last_82 : decode cX11_last 82 = .ok (.ireturn, 1) := by decide +kernel
theorem dX11_last_96 : decode cX11_last 96 = .ok (.sipush 400, 3) := by decide +kernel
theorem dX11_last_99 : decode cX11_last 99 = .ok (.ireturn, 1) := by decide +kernel
theorem dX11_least_0 : decode cX11_least 0 = .ok (.aload_n 0, 1) := by decide +kernel
theorem dX11_least_1 : decode cX11_least 1 = .ok (.getfield 12, 3) := by decide +kernel
theorem dX11_least_4 : decode cX11_least 4 = .ok (.getfield 255, 3) := by decide +kernel
theorem dX11_least_7 : decode cX11_least 7 = .ok (.bipush 13, 2) := by decide +kernel
theorem dX11_least_9 : decode cX11_least 9 = .ok (.idiv, 1) := by decide +kernel
theorem dX11_least_10 : decode cX11_least 10 = .ok (.istore_n 3, 1) := by decide +kernel
theorem dX11_least_11 : decode cX11_least 11 = .ok (.iload_n 2, 1) := by decide +kernel
theorem dX11_least_12 : decode cX11_least 12 = .ok (.iload_n 3, 1) := by decide +kernel
theorem dX11_least_13 : decode cX11_least 13 = .ok (.iconst 1, 1) := by decide +kernel
theorem dX11_least_14 : decode cX11_least 14 = .ok (.iadd, 1) := by decide +kernel
theorem dX11_least_15 : decode cX11_least 15 = .ok (.iload_n 3, 1) := by decide +kernel
theorem dX11_least_16 : decode cX11_least 16 = .ok (.bipush 8, 2) := by decide +kernel
theorem dX11_least_18 : decode cX11_least 18 = .ok (.iadd, 1) := by decide +kernel
theorem dX11_least_19 : decode cX11_least 19 = .ok (.invokestatic 54, 3) := by decide +kernel
theorem dX11_least_22 : decode cX11_least 22 = .ok (.ifCond .eq 33, 3) := by decide +kernel
theorem dX11_least_55 : decode cX11_least 55 = .ok (.iconst (-1), 1) := by decide +kernel
theorem dX11_least_56 : decode cX11_least 56 = .ok (.ireturn, 1) := by decide +kernel
theorem dX11_least_25 : decode cX11_least 25 = .ok (.aload_n 0, 1) := by decide +kernel
theorem dX11_least_26 : decode cX11_least 26 = .ok (.getfield 12, 3) := by decide +kernel
theorem dX11_least_29 : decode cX11_least 29 = .ok (.getfield 114, 3) := by decide +kernel
theorem dX11_least_32 : decode cX11_least 32 = .ok (.iload_n 1, 1) := by decide +kernel
theorem dX11_least_33 : decode cX11_least 33 = .ok (.invokevirtual 127, 3) := by decide +kernel
theorem dX11_least_36 : decode cX11_least 36 = .ok (.ifCond .eq 19, 3) := by decide +kernel
theorem dX11_least_39 : decode cX11_least 39 = .ok (.aload_n 0, 1) := by decide +kernel
theorem dX11_least_40 : decode cX11_least 40 = .ok (.getfield 12, 3) := by decide +kernel
theorem dX11_least_43 : decode cX11_least 43 = .ok (.getfield 114, 3) := by decide +kernel
theorem dX11_least_46 : decode cX11_least 46 = .ok (.getfield 188, 3) := by decide +kernel
theorem dX11_least_49 : decode cX11_least 49 = .ok (.iload_n 1, 1) := by decide +kernel
theorem dX11_least_50 : decode cX11_least 50 = .ok (.iaload, 1) := by decide +kernel
theorem dX11_least_51 : decode cX11_least 51 = .ok (.iconst (-1), 1) := by decide +kernel
theorem dX11_least_52 : decode cX11_least 52 = .ok (.if_icmp .eq 5, 3) := by decide +kernel
theorem dX11_least_57 : decode cX11_least 57 = .ok (.aload_n 0, 1) := by decide +kernel
theorem dX11_least_58 : decode cX11_least 58 = .ok (.getfield 12, 3) := by decide +kernel
theorem dX11_least_61 : decode cX11_least 61 = .ok (.invokevirtual 151, 3) := by decide +kernel
theorem dX11_least_64 : decode cX11_least 64 = .ok (.aload_n 0, 1) := by decide +kernel
theorem dX11_least_65 : decode cX11_least 65 = .ok (.getfield 12, 3) := by decide +kernel
theorem dX11_least_68 : decode cX11_least 68 = .ok (.iload_n 1, 1) := by decide +kernel
theorem dX11_least_69 : decode cX11_least 69 = .ok (.iload_n 2, 1) := by decide +kernel
theorem dX11_least_70 : decode cX11_least 70 = .ok (.iload_n 3, 1) := by decide +kernel
theorem dX11_least_71 : decode cX11_least 71 = .ok (.isub, 1) := by decide +kernel
theorem dX11_least_72 : decode cX11_least 72 = .ok (.invokevirtual 294, 3) := by decide +kernel
theorem dX11_least_75 : decode cX11_least 75 = .ok (.ireturn, 1) := by decide +kernel
theorem dX11_of_0 : decode cX11_of 0 = .ok (.aload_n 0, 1) := by decide +kernel
theorem dX11_of_1 : decode cX11_of 1 = .ok (.getfield 12, 3) := by decide +kernel
theorem dX11_of_4 : decode cX11_of 4 = .ok (.getfield 63, 3) := by decide +kernel
theorem dX11_of_7 : decode cX11_of 7 = .ok (.astore_n 3, 1) := by decide +kernel
theorem dX11_of_8 : decode cX11_of 8 = .ok (.aload_n 3, 1) := by decide +kernel
theorem dX11_of_9 : decode cX11_of 9 = .ok (.iload_n 1, 1) := by decide +kernel
theorem dX11_of_10 : decode cX11_of 10 = .ok (.invokevirtual 80, 3) := by decide +kernel
theorem dX11_of_13 : decode cX11_of 13 = .ok (.ifCond .ne 5, 3) := by decide +kernel
theorem dX11_of_18 : decode cX11_of 18 = .ok (.iload_n 2, 1) := by decide +kernel
theorem dX11_of_19 : decode cX11_of 19 = .ok (.tableswitch 78 0 5 #[37, 44, 51, 58, 65, 72], 37) := by decide +kernel
theorem dX11_of_56 : decode cX11_of 56 = .ok (.aload_n 3, 1) := by decide +kernel
theorem dX11_of_57 : decode cX11_of 57 = .ok (.getfield 87, 3) := by decide +kernel
theorem dX11_of_60 : decode cX11_of 60 = .ok (.iload_n 1, 1) := by decide +kernel
theorem dX11_of_61 : decode cX11_of 61 = .ok (.iaload, 1) := by decide +kernel
theorem dX11_of_62 : decode cX11_of 62 = .ok (.ireturn, 1) := by decide +kernel
theorem dX11_of_63 : decode cX11_of 63 = .ok (.aload_n 3, 1) := by decide +kernel
theorem dX11_of_64 : decode cX11_of 64 = .ok (.getfield 94, 3) := by decide +kernel
theorem dX11_of_67 : decode cX11_of 67 = .ok (.iload_n 1, 1) := by decide +kernel
theorem dX11_of_68 : decode cX11_of 68 = .ok (.iaload, 1) := by decide +kernel
theorem dX11_of_69 : decode cX11_of 69 = .ok (.ireturn, 1) := by decide +kernel
theorem dX11_of_70 : decode cX11_of 70 = .ok (.aload_n 3, 1) := by decide +kernel
theorem dX11_of_71 : decode cX11_of 71 = .ok (.getfield 138, 3) := by decide +kernel
theorem dX11_of_74 : decode cX11_of 74 = .ok (.iload_n 1, 1) := by decide +kernel
theorem dX11_of_75 : decode cX11_of 75 = .ok (.iaload, 1) := by decide +kernel
theorem dX11_of_76 : decode cX11_of 76 = .ok (.ireturn, 1) := by decide +kernel
theorem dX11_of_77 : decode cX11_of 77 = .ok (.aload_n 3, 1) := by decide +kernel
theorem dX11_of_78 : decode cX11_of 78 = .ok (.getfield 141, 3) := by decide +kernel
theorem dX11_of_81 : decode cX11_of 81 = .ok (.iload_n 1, 1) := by decide +kernel
theorem dX11_of_82 : decode cX11_of 82 = .ok (.iaload, 1) := by decide +kernel
theorem dX11_of_83 : decode cX11_of 83 = .ok (.ireturn, 1) := by decide +kernel
theorem dX11_of_84 : decode cX11_of 84 = .ok (.aload_n 3, 1) := by decide +kernel
theorem dX11_of_85 : decode cX11_of 85 = .ok (.getfield 144, 3) := by decide +kernel
theorem dX11_of_88 : decode cX11_of 88 = .ok (.iload_n 1, 1) := by decide +kernel
theorem dX11_of_89 : decode cX11_of 89 = .ok (.iaload, 1) := by decide +kernel
theorem dX11_of_90 : decode cX11_of 90 = .ok (.ireturn, 1) := by decide +kernel
theorem dX11_of_91 : decode cX11_of 91 = .ok (.aload_n 3, 1) := by decide +kernel
theorem dX11_of_92 : decode cX11_of 92 = .ok (.iload_n 1, 1) := by decide +kernel
theorem dX11_of_93 : decode cX11_of 93 = .ok (.invokevirtual 147, 3) := by decide +kernel
theorem dX11_of_96 : decode cX11_of 96 = .ok (.ireturn, 1) := by decide +kernel
theorem dX11_of_97 : decode cX11_of 97 = .ok (.iconst (-1), 1) := by decide +kernel
theorem dX11_of_98 : decode cX11_of 98 = .ok (.ireturn, 1) := by decide +kernel
theorem dX11_of_16 : decode cX11_of 16 = .ok (.iconst (-1), 1) := by decide +kernel
theorem dX11_of_17 : decode cX11_of 17 = .ok (.ireturn, 1) := by decide +kernel
theorem dX11_offer_0 : decode cX11_offer 0 = .ok (.iload_n 1, 1) := by decide +kernel
theorem dX11_offer_1 : decode cX11_offer 1 = .ok (.sipush (-1000), 3) := by decide +kernel
theorem dX11_offer_4 : decode cX11_offer 4 = .ok (.sipush 1000, 3) := by decide +kernel
theorem dX11_offer_7 : decode cX11_offer 7 = .ok (.invokestatic 54, 3) := by decide +kernel
theorem dX11_offer_10 : decode cX11_offer 10 = .ok (.ifCond .eq 16, 3) := by decide +kernel
theorem dX11_offer_26 : decode cX11_offer 26 = .ok (.aload_n 0, 1) := by decide +kernel
theorem dX11_offer_27 : decode cX11_offer 27 = .ok (.iconst (-1), 1) := by decide +kernel
theorem dX11_offer_28 : decode cX11_offer 28 = .ok (.invokevirtual 59, 3) := by decide +kernel
theorem dX11_offer_31 : decode cX11_offer 31 = .ok (.ireturn, 1) := by decide +kernel
theorem dX11_offer_13 : decode cX11_offer 13 = .ok (.iload_n 2, 1) := by decide +kernel
theorem dX11_offer_14 : decode cX11_offer 14 = .ok (.sipush (-1000), 3) := by decide +kernel
theorem dX11_offer_17 : decode cX11_offer 17 = .ok (.sipush 1000, 3) := by decide +kernel
theorem dX11_offer_20 : decode cX11_offer 20 = .ok (.invokestatic 54, 3) := by decide +kernel
theorem dX11_offer_23 : decode cX11_offer 23 = .ok (.ifCond .ne 9, 3) := by decide +kernel
theorem dX11_offer_32 : decode cX11_offer 32 = .ok (.aload_n 0, 1) := by decide +kernel
theorem dX11_offer_33 : decode cX11_offer 33 = .ok (.getfield 12, 3) := by decide +kernel
theorem dX11_offer_36 : decode cX11_offer 36 = .ok (.getfield 98, 3) := by decide +kernel
theorem dX11_offer_39 : decode cX11_offer 39 = .ok (.getfield 297, 3) := by decide +kernel
theorem dX11_offer_42 : decode cX11_offer 42 = .ok (.bipush 9, 2) := by decide +kernel
theorem dX11_offer_44 : decode cX11_offer 44 = .ok (.if_icmp .lt 10, 3) := by decide +kernel
theorem dX11_offer_54 : decode cX11_offer 54 = .ok (.aload_n 0, 1) := by decide +kernel
theorem dX11_offer_55 : decode cX11_offer 55 = .ok (.aload_n 0, 1) := by decide +kernel
theorem dX11_offer_56 : decode cX11_offer 56 = .ok (.getfield 12, 3) := by decide +kernel
theorem dX11_offer_59 : decode cX11_offer 59 = .ok (.getfield 98, 3) := by decide +kernel
theorem dX11_offer_62 : decode cX11_offer 62 = .ok (.iload_n 1, 1) := by decide +kernel
theorem dX11_offer_63 : decode cX11_offer 63 = .ok (.iload_n 2, 1) := by decide +kernel
theorem dX11_offer_64 : decode cX11_offer 64 = .ok (.invokevirtual 300, 3) := by decide +kernel
theorem dX3_addOffer_0 : decode cX3_addOffer 0 = .ok (.aload_n 0, 1) := by decide +kernel
theorem dX3_addOffer_1 : decode cX3_addOffer 1 = .ok (.getfield 22, 3) := by decide +kernel
theorem dX3_addOffer_4 : decode cX3_addOffer 4 = .ok (.bipush 9, 2) := by decide +kernel
theorem dX3_addOffer_6 : decode cX3_addOffer 6 = .ok (.if_icmp .lt 5, 3) := by decide +kernel
theorem dX3_addOffer_11 : decode cX3_addOffer 11 = .ok (.aload_n 0, 1) := by decide +kernel
theorem dX3_addOffer_12 : decode cX3_addOffer 12 = .ok (.getfield 15, 3) := by decide +kernel
theorem dX3_addOffer_15 : decode cX3_addOffer 15 = .ok (.aload_n 0, 1) := by decide +kernel
theorem dX3_addOffer_16 : decode cX3_addOffer 16 = .ok (.getfield 22, 3) := by decide +kernel
theorem dX3_addOffer_19 : decode cX3_addOffer 19 = .ok (.iload_n 1, 1) := by decide +kernel
theorem dX3_addOffer_20 : decode cX3_addOffer 20 = .ok (.iastore, 1) := by decide +kernel
theorem dX3_addOffer_21 : decode cX3_addOffer 21 = .ok (.aload_n 0, 1) := by decide +kernel
theorem dX3_addOffer_22 : decode cX3_addOffer 22 = .ok (.getfield 19, 3) := by decide +kernel
theorem dX3_addOffer_25 : decode cX3_addOffer 25 = .ok (.aload_n 0, 1) := by decide +kernel
theorem dX3_addOffer_26 : decode cX3_addOffer 26 = .ok (.getfield 22, 3) := by decide +kernel
theorem dX3_addOffer_29 : decode cX3_addOffer 29 = .ok (.iload_n 2, 1) := by decide +kernel
theorem dX3_addOffer_30 : decode cX3_addOffer 30 = .ok (.iastore, 1) := by decide +kernel
theorem dX3_addOffer_31 : decode cX3_addOffer 31 = .ok (.aload_n 0, 1) := by decide +kernel
theorem dX3_addOffer_32 : decode cX3_addOffer 32 = .ok (.dup, 1) := by decide +kernel
theorem dX3_addOffer_33 : decode cX3_addOffer 33 = .ok (.getfield 22, 3) := by decide +kernel
theorem dX3_addOffer_36 : decode cX3_addOffer 36 = .ok (.iconst 1, 1) := by decide +kernel
theorem dX3_addOffer_37 : decode cX3_addOffer 37 = .ok (.iadd, 1) := by decide +kernel
theorem dX3_addOffer_38 : decode cX3_addOffer 38 = .ok (.putfield 22, 3) := by decide +kernel
theorem dX3_addOffer_41 : decode cX3_addOffer 41 = .ok (.aload_n 0, 1) := by decide +kernel
theorem dX3_addOffer_42 : decode cX3_addOffer 42 = .ok (.getfield 22, 3) := by decide +kernel
theorem dX3_addOffer_45 : decode cX3_addOffer 45 = .ok (.ireturn, 1) := by decide +kernel
theorem dX3_addOffer_9 : decode cX3_addOffer 9 = .ok (.iconst (-1), 1) := by decide +kernel
theorem dX3_addOffer_10 : decode cX3_addOffer 10 = .ok (.ireturn, 1) := by decide +kernel
theorem dX11_offer_67 : decode cX11_offer 67 = .ok (.invokevirtual 77, 3) := by decide +kernel
theorem dX11_offer_70 : decode cX11_offer 70 = .ok (.ireturn, 1) := by decide +kernel
theorem dX11_offer_47 : decode cX11_offer 47 = .ok (.aload_n 0, 1) := by decide +kernel
theorem dX11_offer_48 : decode cX11_offer 48 = .ok (.bipush (-5), 2) := by decide +kernel
theorem dX11_offer_50 : decode cX11_offer 50 = .ok (.invokevirtual 59, 3) := by decide +kernel
theorem dX11_offer_53 : decode cX11_offer 53 = .ok (.ireturn, 1) := by decide +kernel
theorem dX11_owner_0 : decode cX11_owner 0 = .ok (.aload_n 0, 1) := by decide +kernel
theorem dX11_owner_1 : decode cX11_owner 1 = .ok (.getfield 12, 3) := by decide +kernel
theorem dX11_owner_4 : decode cX11_owner 4 = .ok (.getfield 114, 3) := by decide +kernel
theorem dX11_owner_7 : decode cX11_owner 7 = .ok (.astore_n 3, 1) := by decide +kernel
theorem dX11_owner_8 : decode cX11_owner 8 = .ok (.aload_n 3, 1) := by decide +kernel
theorem dX11_owner_9 : decode cX11_owner 9 = .ok (.iload_n 1, 1) := by decide +kernel
theorem dX11_owner_10 : decode cX11_owner 10 = .ok (.invokevirtual 127, 3) := by decide +kernel
theorem dX11_owner_13 : decode cX11_owner 13 = .ok (.ifCond .ne 5, 3) := by decide +kernel
theorem dX11_owner_18 : decode cX11_owner 18 = .ok (.iload_n 2, 1) := by decide +kernel
theorem dX11_owner_19 : decode cX11_owner 19 = .ok (.lookupswitch 39 #[(0, 25), (1, 32)], 25) := by decide +kernel
theorem dX11_owner_44 : decode cX11_owner 44 = .ok (.aload_n 3, 1) := by decide +kernel
theorem dX11_owner_45 : decode cX11_owner 45 = .ok (.getfield 185, 3) := by decide +kernel
theorem dX11_owner_48 : decode cX11_owner 48 = .ok (.iload_n 1, 1) := by decide +kernel
theorem dX11_owner_49 : decode cX11_owner 49 = .ok (.iaload, 1) := by decide +kernel
theorem dX11_owner_50 : decode cX11_owner 50 = .ok (.ireturn, 1) := by decide +kernel
theorem dX11_owner_51 : decode cX11_owner 51 = .ok (.aload_n 3, 1) := by decide +kernel
theorem dX11_owner_52 : decode cX11_owner 52 = .ok (.getfield 188, 3) := by decide +kernel
theorem dX11_owner_55 : decode cX11_owner 55 = .ok (.iload_n 1, 1) := by decide +kernel
theorem dX11_owner_56 : decode cX11_owner 56 = .ok (.iaload, 1) := by decide +kernel
theorem dX11_owner_57 : decode cX11_owner 57 = .ok (.ireturn, 1) := by decide +kernel
theorem dX11_owner_58 : decode cX11_owner 58 = .ok (.iconst (-1), 1) := by decide +kernel
theorem dX11_owner_59 : decode cX11_owner 59 = .ok (.ireturn, 1) := by decide +kernel
theorem dX11_owner_16 : decode cX11_owner 16 = .ok (.iconst (-1), 1) := by decide +kernel
theorem dX11_owner_17 : decode cX11_owner 17 = .ok (.ireturn, 1) := by decide +kernel
theorem dX11_person_0 : decode cX11_person 0 = .ok (.iload_n 1, 1) := by decide +kernel
theorem dX11_person_1 : decode cX11_person 1 = .ok (.iconst 0, 1) := by decide +kernel
theorem dX11_person_2 : decode cX11_person 2 = .ok (.bipush 19, 2) := by decide +kernel
theorem dX11_person_4 : decode cX11_person 4 = .ok (.invokestatic 54, 3) := by decide +kernel
theorem dX11_person_7 : decode cX11_person 7 = .ok (.ifCond .eq 23, 3) := by decide +kernel
theorem dX11_person_30 : decode cX11_person 30 = .ok (.aload_n 0, 1) := by decide +kernel
theorem dX11_person_31 : decode cX11_person 31 = .ok (.iconst (-1), 1) := by decide +kernel
theorem dX11_person_32 : decode cX11_person 32 = .ok (.invokevirtual 59, 3) := by decide +kernel
theorem dX11_person_35 : decode cX11_person 35 = .ok (.ireturn, 1) := by decide +kernel
theorem dX11_person_10 : decode cX11_person 10 = .ok (.iload_n 2, 1) := by decide +kernel
theorem dX11_person_11 : decode cX11_person 11 = .ok (.iconst 0, 1) := by decide +kernel
theorem dX11_person_12 : decode cX11_person 12 = .ok (.ldc 58, 2) := by decide +kernel
theorem dX11_person_14 : decode cX11_person 14 = .ok (.invokestatic 54, 3) := by decide +kernel
theorem dX11_person_17 : decode cX11_person 17 = .ok (.ifCond .eq 13, 3) := by decide +kernel
theorem dX11_person_20 : decode cX11_person 20 = .ok (.iload_n 3, 1) := by decide +kernel
theorem dX11_person_21 : decode cX11_person 21 = .ok (.iconst 0, 1) := by decide +kernel
theorem dX11_person_22 : decode cX11_person 22 = .ok (.bipush 100, 2) := by decide +kernel
theorem dX11_person_24 : decode cX11_person 24 = .ok (.invokestatic 54, 3) := by decide +kernel
theorem dX11_person_27 : decode cX11_person 27 = .ok (.ifCond .ne 9, 3) := by decide +kernel
theorem dX11_person_36 : decode cX11_person 36 = .ok (.aload_n 0, 1) := by decide +kernel
theorem dX11_person_37 : decode cX11_person 37 = .ok (.getfield 12, 3) := by decide +kernel
theorem dX11_person_40 : decode cX11_person 40 = .ok (.getfield 63, 3) := by decide +kernel
theorem dX11_person_43 : decode cX11_person 43 = .ok (.getfield 67, 3) := by decide +kernel
theorem dX11_person_46 : decode cX11_person 46 = .ok (.bipush 40, 2) := by decide +kernel
theorem dX11_person_48 : decode cX11_person 48 = .ok (.if_icmp .lt 10, 3) := by decide +kernel
theorem dX11_person_58 : decode cX11_person 58 = .ok (.aload_n 0, 1) := by decide +kernel
theorem dX11_person_59 : decode cX11_person 59 = .ok (.aload_n 0, 1) := by decide +kernel
theorem dX11_person_60 : decode cX11_person 60 = .ok (.getfield 12, 3) := by decide +kernel
theorem dX11_person_63 : decode cX11_person 63 = .ok (.getfield 63, 3) := by decide +kernel
theorem dX11_person_66 : decode cX11_person 66 = .ok (.iload_n 1, 1) := by decide +kernel
theorem dX11_person_67 : decode cX11_person 67 = .ok (.iload_n 2, 1) := by decide +kernel
theorem dX11_person_68 : decode cX11_person 68 = .ok (.iload_n 3, 1) := by decide +kernel
theorem dX11_person_69 : decode cX11_person 69 = .ok (.invokevirtual 73, 3) := by decide +kernel
theorem dX4_add_0 : decode cX4_add 0 = .ok (.aload_n 0, 1) := by decide +kernel
theorem dX4_add_1 : decode cX4_add 1 = .ok (.getfield 39, 3) := by decide +kernel
theorem dX4_add_4 : decode cX4_add 4 = .ok (.bipush 40, 2) := by decide +kernel
theorem dX4_add_6 : decode cX4_add 6 = .ok (.if_icmp .lt 5, 3) := by decide +kernel
theorem dX4_add_11 : decode cX4_add 11 = .ok (.aload_n 0, 1) := by decide +kernel
theorem dX4_add_12 : decode cX4_add 12 = .ok (.getfield 39, 3) := by decide +kernel
theorem dX4_add_15 : decode cX4_add 15 = .ok (.istore 4, 2) := by decide +kernel
theorem dX4_add_17 : decode cX4_add 17 = .ok (.aload_n 0, 1) := by decide +kernel
theorem dX4_add_18 : decode cX4_add 18 = .ok (.getfield 9, 3) := by decide +kernel
theorem dX4_add_21 : decode cX4_add 21 = .ok (.iload 4, 2) := by decide +kernel
theorem dX4_add_23 : decode cX4_add 23 = .ok (.iload_n 1, 1) := by decide +kernel
theorem dX4_add_24 : decode cX4_add 24 = .ok (.iastore, 1) := by decide +kernel
theorem dX4_add_25 : decode cX4_add 25 = .ok (.aload_n 0, 1) := by decide +kernel
theorem dX4_add_26 : decode cX4_add 26 = .ok (.getfield 15, 3) := by decide +kernel
theorem dX4_add_29 : decode cX4_add 29 = .ok (.iload 4, 2) := by decide +kernel
theorem dX4_add_31 : decode cX4_add 31 = .ok (.iload_n 2, 1) := by decide +kernel
theorem dX4_add_32 : decode cX4_add 32 = .ok (.iastore, 1) := by decide +kernel
theorem dX4_add_33 : decode cX4_add 33 = .ok (.aload_n 0, 1) := by decide +kernel
theorem dX4_add_34 : decode cX4_add 34 = .ok (.getfield 18, 3) := by decide +kernel
theorem dX4_add_37 : decode cX4_add 37 = .ok (.iload 4, 2) := by decide +kernel
theorem dX4_add_39 : decode cX4_add 39 = .ok (.iload_n 3, 1) := by decide +kernel
theorem dX4_add_40 : decode cX4_add 40 = .ok (.iastore, 1) := by decide +kernel
theorem dX4_add_41 : decode cX4_add 41 = .ok (.aload_n 0, 1) := by decide +kernel
theorem dX4_add_42 : decode cX4_add 42 = .ok (.getfield 21, 3) := by decide +kernel
theorem dX4_add_45 : decode cX4_add 45 = .ok (.iload 4, 2) := by decide +kernel
theorem dX4_add_47 : decode cX4_add 47 = .ok (.iconst (-1), 1) := by decide +kernel
theorem dX4_add_48 : decode cX4_add 48 = .ok (.iastore, 1) := by decide +kernel
theorem dX4_add_49 : decode cX4_add 49 = .ok (.aload_n 0, 1) := by decide +kernel
theorem dX4_add_50 : decode cX4_add 50 = .ok (.getfield 24, 3) := by decide +kernel
theorem dX4_add_53 : decode cX4_add 53 = .ok (.iload 4, 2) := by decide +kernel
theorem dX4_add_55 : decode cX4_add 55 = .ok (.iconst 0, 1) := by decide +kernel
theorem dX4_add_56 : decode cX4_add 56 = .ok (.iastore, 1) := by decide +kernel
theorem dX4_add_57 : decode cX4_add 57 = .ok (.aload_n 0, 1) := by decide +kernel
theorem dX4_add_58 : decode cX4_add 58 = .ok (.getfield 27, 3) := by decide +kernel
theorem dX4_add_61 : decode cX4_add 61 = .ok (.iload 4, 2) := by decide +kernel
theorem dX4_add_63 : decode cX4_add 63 = .ok (.iconst 0, 1) := by decide +kernel
theorem dX4_add_64 : decode cX4_add 64 = .ok (.iastore, 1) := by decide +kernel
theorem dX4_add_65 : decode cX4_add 65 = .ok (.aload_n 0, 1) := by decide +kernel
theorem dX4_add_66 : decode cX4_add 66 = .ok (.getfield 30, 3) := by decide +kernel
theorem dX4_add_69 : decode cX4_add 69 = .ok (.iload 4, 2) := by decide +kernel
theorem dX4_add_71 : decode cX4_add 71 = .ok (.iconst (-1), 1) := by decide +kernel
theorem dX4_add_72 : decode cX4_add 72 = .ok (.iastore, 1) := by decide +kernel
theorem dX4_add_73 : decode cX4_add 73 = .ok (.aload_n 0, 1) := by decide +kernel
theorem dX4_add_74 : decode cX4_add 74 = .ok (.getfield 33, 3) := by decide +kernel
theorem dX4_add_77 : decode cX4_add 77 = .ok (.iload 4, 2) := by decide +kernel
theorem dX4_add_79 : decode cX4_add 79 = .ok (.iconst 0, 1) := by decide +kernel
theorem dX4_add_80 : decode cX4_add 80 = .ok (.iastore, 1) := by decide +kernel
theorem dX4_add_81 : decode cX4_add 81 = .ok (.aload_n 0, 1) := by decide +kernel
theorem dX4_add_82 : decode cX4_add 82 = .ok (.dup, 1) := by decide +kernel
theorem dX4_add_83 : decode cX4_add 83 = .ok (.getfield 39, 3) := by decide +kernel
theorem dX4_add_86 : decode cX4_add 86 = .ok (.iconst 1, 1) := by decide +kernel
theorem dX4_add_87 : decode cX4_add 87 = .ok (.iadd, 1) := by decide +kernel
theorem dX4_add_88 : decode cX4_add 88 = .ok (.putfield 39, 3) := by decide +kernel
theorem dX4_add_91 : decode cX4_add 91 = .ok (.iload 4, 2) := by decide +kernel
theorem dX4_add_93 : decode cX4_add 93 = .ok (.ireturn, 1) := by decide +kernel
theorem dX4_add_9 : decode cX4_add 9 = .ok (.iconst (-1), 1) := by decide +kernel
theorem dX4_add_10 : decode cX4_add 10 = .ok (.ireturn, 1) := by decide +kernel
theorem dX11_person_72 : decode cX11_person 72 = .ok (.invokevirtual 77, 3) := by decide +kernel
theorem dX11_person_75 : decode cX11_person 75 = .ok (.ireturn, 1) := by decide +kernel
theorem dX11_person_51 : decode cX11_person 51 = .ok (.aload_n 0, 1) := by decide +kernel
theorem dX11_person_52 : decode cX11_person 52 = .ok (.bipush (-5), 2) := by decide +kernel
theorem dX11_person_54 : decode cX11_person 54 = .ok (.invokevirtual 59, 3) := by decide +kernel
theorem dX11_person_57 : decode cX11_person 57 = .ok (.ireturn, 1) := by decide +kernel
theorem dX11_price_0 : decode cX11_price 0 = .ok (.iload_n 1, 1) := by decide +kernel
theorem dX11_price_1 : decode cX11_price 1 = .ok (.invokestatic 191, 3) := by decide +kernel
theorem dX11_price_4 : decode cX11_price 4 = .ok (.ifCond .eq 14, 3) := by decide +kernel
theorem dX11_price_18 : decode cX11_price 18 = .ok (.aload_n 0, 1) := by decide +kernel
theorem dX11_price_19 : decode cX11_price 19 = .ok (.iconst (-1), 1) := by decide +kernel
theorem dX11_price_20 : decode cX11_price 20 = .ok (.invokevirtual 59, 3) := by decide +kernel
theorem dX11_price_23 : decode cX11_price 23 = .ok (.ireturn, 1) := by decide +kernel
theorem dX11_price_7 : decode cX11_price 7 = .ok (.iload_n 2, 1) := by decide +kernel
theorem dX11_price_8 : decode cX11_price 8 = .ok (.iconst 0, 1) := by decide +kernel
theorem dX11_price_9 : decode cX11_price 9 = .ok (.sipush 10000, 3) := by decide +kernel
theorem dX11_price_12 : decode cX11_price 12 = .ok (.invokestatic 54, 3) := by decide +kernel
theorem dX11_price_15 : decode cX11_price 15 = .ok (.ifCond .ne 9, 3) := by decide +kernel
theorem dX11_price_24 : decode cX11_price 24 = .ok (.aload_n 0, 1) := by decide +kernel
theorem dX11_price_25 : decode cX11_price 25 = .ok (.getfield 12, 3) := by decide +kernel
theorem dX11_price_28 : decode cX11_price 28 = .ok (.getfield 194, 3) := by decide +kernel
theorem dX11_price_31 : decode cX11_price 31 = .ok (.getfield 198, 3) := by decide +kernel
theorem dX11_price_34 : decode cX11_price 34 = .ok (.iload_n 1, 1) := by decide +kernel
theorem dX11_price_35 : decode cX11_price 35 = .ok (.iload_n 2, 1) := by decide +kernel
theorem dX11_price_36 : decode cX11_price 36 = .ok (.iastore, 1) := by decide +kernel
theorem dX11_price_37 : decode cX11_price 37 = .ok (.aload_n 0, 1) := by decide +kernel
theorem dX11_price_38 : decode cX11_price 38 = .ok (.iconst 0, 1) := by decide +kernel
theorem dX11_price_39 : decode cX11_price 39 = .ok (.invokevirtual 77, 3) := by decide +kernel
theorem dX11_price_42 : decode cX11_price 42 = .ok (.ireturn, 1) := by decide +kernel
theorem dX11_row_0 : decode cX11_row 0 = .ok (.aload_n 0, 1) := by decide +kernel
theorem dX11_row_1 : decode cX11_row 1 = .ok (.iload_n 1, 1) := by decide +kernel
theorem dX11_row_2 : decode cX11_row 2 = .ok (.iload_n 2, 1) := by decide +kernel
theorem dX11_row_3 : decode cX11_row 3 = .ok (.invokevirtual 203, 3) := by decide +kernel
theorem dX11_whyNoRow_0 : decode cX11_whyNoRow 0 = .ok (.iload_n 1, 1) := by decide +kernel
theorem dX11_whyNoRow_1 : decode cX11_whyNoRow 1 = .ok (.invokestatic 191, 3) := by decide +kernel
theorem dX11_whyNoRow_4 : decode cX11_whyNoRow 4 = .ok (.ifCond .ne 5, 3) := by decide +kernel
theorem dX11_whyNoRow_9 : decode cX11_whyNoRow 9 = .ok (.aload_n 0, 1) := by decide +kernel
theorem dX11_whyNoRow_10 : decode cX11_whyNoRow 10 = .ok (.getfield 12, 3) := by decide +kernel
theorem dX11_whyNoRow_13 : decode cX11_whyNoRow 13 = .ok (.getfield 114, 3) := by decide +kernel
theorem dX11_whyNoRow_16 : decode cX11_whyNoRow 16 = .ok (.iload_n 2, 1) := by decide +kernel
theorem dX11_whyNoRow_17 : decode cX11_whyNoRow 17 = .ok (.invokevirtual 150, 3) := by decide +kernel
theorem dX11_whyNoRow_20 : decode cX11_whyNoRow 20 = .ok (.ifCond .ne 6, 3) := by decide +kernel
theorem dX11_whyNoRow_26 : decode cX11_whyNoRow 26 = .ok (.iload_n 1, 1) := by decide +kernel
theorem dX11_whyNoRow_27 : decode cX11_whyNoRow 27 = .ok (.aload_n 0, 1) := by decide +kernel
theorem dX11_whyNoRow_28 : decode cX11_whyNoRow 28 = .ok (.getfield 12, 3) := by decide +kernel
theorem dX11_whyNoRow_31 : decode cX11_whyNoRow 31 = .ok (.getfield 255, 3) := by decide +kernel
theorem dX11_whyNoRow_34 : decode cX11_whyNoRow 34 = .ok (.if_icmp .ge 6, 3) := by decide +kernel
theorem dX11_whyNoRow_40 : decode cX11_whyNoRow 40 = .ok (.aload_n 0, 1) := by decide +kernel
theorem dX11_whyNoRow_41 : decode cX11_whyNoRow 41 = .ok (.getfield 12, 3) := by decide +kernel
theorem dX11_whyNoRow_44 : decode cX11_whyNoRow 44 = .ok (.getfield 194, 3) := by decide +kernel
theorem dX11_whyNoRow_47 : decode cX11_whyNoRow 47 = .ok (.getfield 359, 3) := by decide +kernel
theorem dX11_whyNoRow_50 : decode cX11_whyNoRow 50 = .ok (.iload_n 1, 1) := by decide +kernel
theorem dX11_whyNoRow_51 : decode cX11_whyNoRow 51 = .ok (.aaload, 1) := by decide +kernel
theorem dX11_whyNoRow_52 : decode cX11_whyNoRow 52 = .ok (.ifnull 6, 3) := by decide +kernel
theorem dX11_whyNoRow_58 : decode cX11_whyNoRow 58 = .ok (.aload_n 0, 1) := by decide +kernel
theorem dX11_whyNoRow_59 : decode cX11_whyNoRow 59 = .ok (.getfield 30, 3) := by decide +kernel
theorem dX11_whyNoRow_62 : decode cX11_whyNoRow 62 = .ok (.invokevirtual 363, 3) := by decide +kernel
theorem dX8_floats_0 : decode cX8_floats 0 = .ok (.aload_n 0, 1) := by decide +kernel
theorem dX8_floats_1 : decode cX8_floats 1 = .ok (.getfield 19, 3) := by decide +kernel
theorem dX8_floats_4 : decode cX8_floats 4 = .ok (.iconst 3, 1) := by decide +kernel
theorem dX8_floats_5 : decode cX8_floats 5 = .ok (.iadd, 1) := by decide +kernel
theorem dX8_floats_6 : decode cX8_floats 6 = .ok (.iconst 4, 1) := by decide +kernel
theorem dX8_floats_7 : decode cX8_floats 7 = .ok (.idiv, 1) := by decide +kernel
theorem dX8_floats_8 : decode cX8_floats 8 = .ok (.ireturn, 1) := by decide +kernel
theorem dX11_whyNoRow_65 : decode cX11_whyNoRow 65 = .ok (.istore_n 3, 1) := by decide +kernel
theorem dX11_whyNoRow_66 : decode cX11_whyNoRow 66 = .ok (.iload_n 3, 1) := by decide +kernel
theorem dX11_whyNoRow_67 : decode cX11_whyNoRow 67 = .ok (.ifCond .eq 19, 3) := by decide +kernel
theorem dX11_whyNoRow_86 : decode cX11_whyNoRow 86 = .ok (.bipush (-6), 2) := by decide +kernel
theorem dX11_whyNoRow_88 : decode cX11_whyNoRow 88 = .ok (.goto 4, 3) := by decide +kernel
theorem dX11_whyNoRow_70 : decode cX11_whyNoRow 70 = .ok (.iload_n 3, 1) := by decide +kernel
theorem dX11_whyNoRow_71 : decode cX11_whyNoRow 71 = .ok (.aload_n 0, 1) := by decide +kernel
theorem dX11_whyNoRow_72 : decode cX11_whyNoRow 72 = .ok (.getfield 12, 3) := by decide +kernel
theorem dX11_whyNoRow_75 : decode cX11_whyNoRow 75 = .ok (.getfield 114, 3) := by decide +kernel
theorem dX11_whyNoRow_78 : decode cX11_whyNoRow 78 = .ok (.getfield 130, 3) := by decide +kernel
theorem dX11_whyNoRow_81 : decode cX11_whyNoRow 81 = .ok (.iload_n 2, 1) := by decide +kernel
theorem dX11_whyNoRow_82 : decode cX11_whyNoRow 82 = .ok (.isub, 1) := by decide +kernel
theorem dX11_whyNoRow_83 : decode cX11_whyNoRow 83 = .ok (.if_icmp .le 8, 3) := by decide +kernel
theorem dX11_whyNoRow_91 : decode cX11_whyNoRow 91 = .ok (.iconst 0, 1) := by decide +kernel
theorem dX11_whyNoRow_92 : decode cX11_whyNoRow 92 = .ok (.ireturn, 1) := by decide +kernel
theorem dX11_whyNoRow_55 : decode cX11_whyNoRow 55 = .ok (.bipush (-4), 2) := by decide +kernel
theorem dX11_whyNoRow_57 : decode cX11_whyNoRow 57 = .ok (.ireturn, 1) := by decide +kernel
theorem dX11_whyNoRow_37 : decode cX11_whyNoRow 37 = .ok (.bipush (-3), 2) := by decide +kernel
theorem dX11_whyNoRow_39 : decode cX11_whyNoRow 39 = .ok (.ireturn, 1) := by decide +kernel
theorem dX11_whyNoRow_23 : decode cX11_whyNoRow 23 = .ok (.bipush (-2), 2) := by decide +kernel
theorem dX11_whyNoRow_25 : decode cX11_whyNoRow 25 = .ok (.ireturn, 1) := by decide +kernel
theorem dX11_whyNoRow_7 : decode cX11_whyNoRow 7 = .ok (.iconst (-1), 1) := by decide +kernel
theorem dX11_whyNoRow_8 : decode cX11_whyNoRow 8 = .ok (.ireturn, 1) := by decide +kernel
theorem dX11_row_6 : decode cX11_row 6 = .ok (.istore_n 3, 1) := by decide +kernel
theorem dX11_row_7 : decode cX11_row 7 = .ok (.iload_n 3, 1) := by decide +kernel
theorem dX11_row_8 : decode cX11_row 8 = .ok (.ifCond .ne 12, 3) := by decide +kernel
theorem dX11_row_20 : decode cX11_row 20 = .ok (.iconst 0, 1) := by decide +kernel
theorem dX11_row_11 : decode cX11_row 11 = .ok (.aload_n 0, 1) := by decide +kernel
theorem dX11_row_12 : decode cX11_row 12 = .ok (.iload_n 1, 1) := by decide +kernel
theorem dX11_row_13 : decode cX11_row 13 = .ok (.iload_n 2, 1) := by decide +kernel
theorem dX11_row_14 : decode cX11_row 14 = .ok (.invokevirtual 206, 3) := by decide +kernel
theorem dX11_row_17 : decode cX11_row 17 = .ok (.goto 4, 3) := by decide +kernel
theorem dX11_row_21 : decode cX11_row 21 = .ok (.istore 4, 2) := by decide +kernel
theorem dX11_row_23 : decode cX11_row 23 = .ok (.aload_n 0, 1) := by decide +kernel
theorem dX11_row_24 : decode cX11_row 24 = .ok (.getfield 30, 3) := by decide +kernel
theorem dX11_row_27 : decode cX11_row 27 = .ok (.iconst 0, 1) := by decide +kernel
theorem dX11_row_28 : decode cX11_row 28 = .ok (.putfield 209, 3) := by decide +kernel
theorem dX11_row_31 : decode cX11_row 31 = .ok (.iload_n 3, 1) := by decide +kernel
theorem dX11_row_32 : decode cX11_row 32 = .ok (.ifCond .ne 12, 3) := by decide +kernel
theorem dX11_row_44 : decode cX11_row 44 = .ok (.aload_n 0, 1) := by decide +kernel
theorem dX11_row_45 : decode cX11_row 45 = .ok (.iload_n 3, 1) := by decide +kernel
theorem dX11_row_46 : decode cX11_row 46 = .ok (.invokevirtual 59, 3) := by decide +kernel
theorem dX11_row_35 : decode cX11_row 35 = .ok (.aload_n 0, 1) := by decide +kernel
theorem dX11_row_36 : decode cX11_row 36 = .ok (.iload 4, 2) := by decide +kernel
theorem dX11_row_38 : decode cX11_row 38 = .ok (.invokevirtual 77, 3) := by decide +kernel
theorem dX11_row_41 : decode cX11_row 41 = .ok (.goto 8, 3) := by decide +kernel
theorem dX11_row_49 : decode cX11_row 49 = .ok (.ireturn, 1) := by decide +kernel
theorem dX11_seal_0 : decode cX11_seal 0 = .ok (.aload_n 0, 1) := by decide +kernel
theorem dX11_seal_1 : decode cX11_seal 1 = .ok (.getfield 12, 3) := by decide +kernel
theorem dX11_seal_4 : decode cX11_seal 4 = .ok (.getfield 114, 3) := by decide +kernel
theorem dX11_seal_7 : decode cX11_seal 7 = .ok (.invokevirtual 338, 3) := by decide +kernel
theorem dX1_keepSums_0 : decode cX1_keepSums 0 = .ok (.aload_n 0, 1) := by decide +kernel
theorem dX1_keepSums_1 : decode cX1_keepSums 1 = .ok (.aload_n 0, 1) := by decide +kernel
theorem dX1_keepSums_2 : decode cX1_keepSums 2 = .ok (.getfield 46, 3) := by decide +kernel
theorem dX1_keepSums_5 : decode cX1_keepSums 5 = .ok (.putfield 42, 3) := by decide +kernel
theorem dX1_keepSums_8 : decode cX1_keepSums 8 = .ok (.aload_n 0, 1) := by decide +kernel
theorem dX1_keepSums_9 : decode cX1_keepSums 9 = .ok (.aload_n 0, 1) := by decide +kernel
theorem dX1_keepSums_10 : decode cX1_keepSums 10 = .ok (.invokevirtual 58, 3) := by decide +kernel
theorem dX1_keepSums_13 : decode cX1_keepSums 13 = .ok (.putfield 62, 3) := by decide +kernel
theorem dX1_keepSums_16 : decode cX1_keepSums 16 = .ok (.aload_n 0, 1) := by decide +kernel
theorem dX1_keepSums_17 : decode cX1_keepSums 17 = .ok (.aload_n 0, 1) := by decide +kernel
theorem dX1_keepSums_18 : decode cX1_keepSums 18 = .ok (.invokevirtual 66, 3) := by decide +kernel
theorem dX1_keepSums_21 : decode cX1_keepSums 21 = .ok (.putfield 69, 3) := by decide +kernel
theorem dX1_keepSums_24 : decode cX1_keepSums 24 = .ok (.return_, 1) := by decide +kernel
theorem dX11_seal_10 : decode cX11_seal 10 = .ok (.aload_n 0, 1) := by decide +kernel
theorem dX11_seal_11 : decode cX11_seal 11 = .ok (.getfield 12, 3) := by decide +kernel
theorem dX11_seal_14 : decode cX11_seal 14 = .ok (.getfield 114, 3) := by decide +kernel
theorem dX11_seal_17 : decode cX11_seal 17 = .ok (.getfield 130, 3) := by decide +kernel
theorem dX11_seal_20 : decode cX11_seal 20 = .ok (.ireturn, 1) := by decide +kernel
theorem dX11_status_0 : decode cX11_status 0 = .ok (.aload_n 0, 1) := by decide +kernel
theorem dX11_status_1 : decode cX11_status 1 = .ok (.getfield 356, 3) := by decide +kernel
theorem dX11_status_4 : decode cX11_status 4 = .ok (.ireturn, 1) := by decide +kernel
theorem dX11_take_0 : decode cX11_take 0 = .ok (.aload_n 0, 1) := by decide +kernel
theorem dX11_take_1 : decode cX11_take 1 = .ok (.getfield 12, 3) := by decide +kernel
theorem dX11_take_4 : decode cX11_take 4 = .ok (.getfield 114, 3) := by decide +kernel
theorem dX11_take_7 : decode cX11_take 7 = .ok (.astore 4, 2) := by decide +kernel
theorem dX11_take_9 : decode cX11_take 9 = .ok (.iload_n 3, 1) := by decide +kernel
theorem dX11_take_10 : decode cX11_take 10 = .ok (.iconst 0, 1) := by decide +kernel
theorem dX11_take_11 : decode cX11_take 11 = .ok (.iconst 1, 1) := by decide +kernel
theorem dX11_take_12 : decode cX11_take 12 = .ok (.invokestatic 54, 3) := by decide +kernel
theorem dX11_take_15 : decode cX11_take 15 = .ok (.ifCond .ne 9, 3) := by decide +kernel
theorem dX11_take_24 : decode cX11_take 24 = .ok (.aload_n 0, 1) := by decide +kernel
theorem dX11_take_25 : decode cX11_take 25 = .ok (.getfield 12, 3) := by decide +kernel
theorem dX11_take_28 : decode cX11_take 28 = .ok (.getfield 63, 3) := by decide +kernel
theorem dX11_take_31 : decode cX11_take 31 = .ok (.iload_n 1, 1) := by decide +kernel
theorem dX11_take_32 : decode cX11_take 32 = .ok (.invokevirtual 80, 3) := by decide +kernel
theorem dX11_take_35 : decode cX11_take 35 = .ok (.ifCond .eq 12, 3) := by decide +kernel
theorem dX11_take_47 : decode cX11_take 47 = .ok (.aload_n 0, 1) := by decide +kernel
theorem dX11_take_48 : decode cX11_take 48 = .ok (.bipush (-2), 2) := by decide +kernel
theorem dX11_take_50 : decode cX11_take 50 = .ok (.invokevirtual 59, 3) := by decide +kernel
theorem dX11_take_53 : decode cX11_take 53 = .ok (.ireturn, 1) := by decide +kernel
theorem dX11_take_38 : decode cX11_take 38 = .ok (.aload 4, 2) := by decide +kernel
theorem dX11_take_40 : decode cX11_take 40 = .ok (.iload_n 2, 1) := by decide +kernel
theorem dX11_take_41 : decode cX11_take 41 = .ok (.invokevirtual 150, 3) := by decide +kernel
theorem dX11_take_44 : decode cX11_take 44 = .ok (.ifCond .ne 10, 3) := by decide +kernel
theorem dX11_take_54 : decode cX11_take 54 = .ok (.iload_n 3, 1) := by decide +kernel
theorem dX11_take_55 : decode cX11_take 55 = .ok (.ifCond .ne 7, 3) := by decide +kernel
theorem dX11_take_62 : decode cX11_take 62 = .ok (.iconst 0, 1) := by decide +kernel
theorem dX11_take_58 : decode cX11_take 58 = .ok (.iconst 1, 1) := by decide +kernel
theorem dX11_take_59 : decode cX11_take 59 = .ok (.goto 4, 3) := by decide +kernel
theorem dX11_take_63 : decode cX11_take 63 = .ok (.istore 5, 2) := by decide +kernel
theorem dX11_take_65 : decode cX11_take 65 = .ok (.aload 4, 2) := by decide +kernel
theorem dX11_take_67 : decode cX11_take 67 = .ok (.getfield 182, 3) := by decide +kernel
theorem dX11_take_70 : decode cX11_take 70 = .ok (.iload_n 2, 1) := by decide +kernel
theorem dX11_take_71 : decode cX11_take 71 = .ok (.iaload, 1) := by decide +kernel
theorem dX11_take_72 : decode cX11_take 72 = .ok (.iconst 1, 1) := by decide +kernel
theorem dX11_take_73 : decode cX11_take 73 = .ok (.if_icmp .ne 7, 3) := by decide +kernel
theorem dX11_take_80 : decode cX11_take 80 = .ok (.iconst 0, 1) := by decide +kernel
theorem dX11_take_76 : decode cX11_take 76 = .ok (.iconst 1, 1) := by decide +kernel
theorem dX11_take_77 : decode cX11_take 77 = .ok (.goto 4, 3) := by decide +kernel
theorem dX11_take_81 : decode cX11_take 81 = .ok (.istore 6, 2) := by decide +kernel
theorem dX11_take_83 : decode cX11_take 83 = .ok (.aload_n 0, 1) := by decide +kernel
theorem dX11_take_84 : decode cX11_take 84 = .ok (.getfield 12, 3) := by decide +kernel
theorem dX11_take_87 : decode cX11_take 87 = .ok (.getfield 63, 3) := by decide +kernel
theorem dX11_take_90 : decode cX11_take 90 = .ok (.getfield 87, 3) := by decide +kernel
theorem dX11_take_93 : decode cX11_take 93 = .ok (.iload_n 1, 1) := by decide +kernel
theorem dX11_take_94 : decode cX11_take 94 = .ok (.iaload, 1) := by decide +kernel
theorem dX11_take_95 : decode cX11_take 95 = .ok (.ifCond .ne 21, 3) := by decide +kernel
theorem dX11_take_116 : decode cX11_take 116 = .ok (.aload_n 0, 1) := by decide +kernel
theorem dX11_take_117 : decode cX11_take 117 = .ok (.bipush (-3), 2) := by decide +kernel
theorem dX11_take_119 : decode cX11_take 119 = .ok (.invokevirtual 59, 3) := by decide +kernel
theorem dX11_take_122 : decode cX11_take 122 = .ok (.ireturn, 1) := by decide +kernel
theorem dX11_take_98 : decode cX11_take 98 = .ok (.aload 4, 2) := by decide +kernel
theorem dX11_take_100 : decode cX11_take 100 = .ok (.getfield 154, 3) := by decide +kernel
theorem dX11_take_103 : decode cX11_take 103 = .ok (.iload_n 2, 1) := by decide +kernel
theorem dX11_take_104 : decode cX11_take 104 = .ok (.iaload, 1) := by decide +kernel
theorem dX11_take_105 : decode cX11_take 105 = .ok (.iconst (-1), 1) := by decide +kernel
theorem dX11_take_106 : decode cX11_take 106 = .ok (.if_icmp .ne 10, 3) := by decide +kernel
theorem dX11_take_109 : decode cX11_take 109 = .ok (.iload 5, 2) := by decide +kernel
theorem dX11_take_111 : decode cX11_take 111 = .ok (.iload 6, 2) := by decide +kernel
theorem dX11_take_113 : decode cX11_take 113 = .ok (.if_icmp .eq 10, 3) := by decide +kernel
theorem dX11_take_123 : decode cX11_take 123 = .ok (.aload_n 0, 1) := by decide +kernel
theorem dX11_take_124 : decode cX11_take 124 = .ok (.getfield 12, 3) := by decide +kernel
theorem dX11_take_127 : decode cX11_take 127 = .ok (.invokevirtual 151, 3) := by decide +kernel
theorem dX11_take_130 : decode cX11_take 130 = .ok (.iload 5, 2) := by decide +kernel
theorem dX11_take_132 : decode cX11_take 132 = .ok (.ifCond .eq 25, 3) := by decide +kernel
theorem dX11_take_157 : decode cX11_take 157 = .ok (.aload_n 0, 1) := by decide +kernel
theorem dX11_take_158 : decode cX11_take 158 = .ok (.getfield 12, 3) := by decide +kernel
theorem dX11_take_161 : decode cX11_take 161 = .ok (.iload_n 1, 1) := by decide +kernel
theorem dX11_take_162 : decode cX11_take 162 = .ok (.iload_n 2, 1) := by decide +kernel
theorem dX11_take_163 : decode cX11_take 163 = .ok (.iload 5, 2) := by decide +kernel
theorem dX11_take_165 : decode cX11_take 165 = .ok (.ifCond .eq 7, 3) := by decide +kernel
theorem dX11_take_172 : decode cX11_take 172 = .ok (.iconst 0, 1) := by decide +kernel
theorem dX11_take_173 : decode cX11_take 173 = .ok (.invokevirtual 134, 3) := by decide +kernel
theorem dX11_take_176 : decode cX11_take 176 = .ok (.aload_n 0, 1) := by decide +kernel
theorem dX11_take_177 : decode cX11_take 177 = .ok (.iconst 0, 1) := by decide +kernel
theorem dX11_take_178 : decode cX11_take 178 = .ok (.invokevirtual 77, 3) := by decide +kernel
theorem dX11_take_181 : decode cX11_take 181 = .ok (.ireturn, 1) := by decide +kernel
theorem dX11_take_135 : decode cX11_take 135 = .ok (.aload_n 0, 1) := by decide +kernel
theorem dX11_take_136 : decode cX11_take 136 = .ok (.getfield 12, 3) := by decide +kernel
theorem dX11_take_139 : decode cX11_take 139 = .ok (.sipush 264, 3) := by decide +kernel
theorem dX11_take_142 : decode cX11_take 142 = .ok (.iload_n 1, 1) := by decide +kernel
theorem dX11_take_143 : decode cX11_take 143 = .ok (.iload_n 2, 1) := by decide +kernel
theorem dX11_take_144 : decode cX11_take 144 = .ok (.invokevirtual 270, 3) := by decide +kernel
theorem dX11_take_147 : decode cX11_take 147 = .ok (.ifCond .ne 10, 3) := by decide +kernel
theorem dX11_take_168 : decode cX11_take 168 = .ok (.iconst 1, 1) := by decide +kernel
theorem dX11_take_169 : decode cX11_take 169 = .ok (.goto 4, 3) := by decide +kernel
theorem dX11_take_150 : decode cX11_take 150 = .ok (.aload_n 0, 1) := by decide +kernel
theorem dX11_take_151 : decode cX11_take 151 = .ok (.bipush (-3), 2) := by decide +kernel
theorem dX11_take_153 : decode cX11_take 153 = .ok (.invokevirtual 59, 3) := by decide +kernel
theorem dX11_take_156 : decode cX11_take 156 = .ok (.ireturn, 1) := by decide +kernel
theorem dX11_take_18 : decode cX11_take 18 = .ok (.aload_n 0, 1) := by decide +kernel
theorem dX11_take_19 : decode cX11_take 19 = .ok (.iconst (-1), 1) := by decide +kernel
theorem dX11_take_20 : decode cX11_take 20 = .ok (.invokevirtual 59, 3) := by decide +kernel
theorem dX11_take_23 : decode cX11_take 23 = .ok (.ireturn, 1) := by decide +kernel
theorem dX11_tells_0 : decode cX11_tells 0 = .ok (.aload_n 0, 1) := by decide +kernel
theorem dX11_tells_1 : decode cX11_tells 1 = .ok (.getfield 12, 3) := by decide +kernel
theorem dX11_tells_4 : decode cX11_tells 4 = .ok (.getfield 114, 3) := by decide +kernel
theorem dX11_tells_7 : decode cX11_tells 7 = .ok (.astore_n 3, 1) := by decide +kernel
theorem dX11_tells_8 : decode cX11_tells 8 = .ok (.aload_n 3, 1) := by decide +kernel
theorem dX11_tells_9 : decode cX11_tells 9 = .ok (.iload_n 1, 1) := by decide +kernel
theorem dX11_tells_10 : decode cX11_tells 10 = .ok (.invokevirtual 150, 3) := by decide +kernel
theorem dX11_tells_13 : decode cX11_tells 13 = .ok (.ifCond .ne 5, 3) := by decide +kernel
theorem dX11_tells_18 : decode cX11_tells 18 = .ok (.aload_n 0, 1) := by decide +kernel
theorem dX11_tells_19 : decode cX11_tells 19 = .ok (.getfield 12, 3) := by decide +kernel
theorem dX11_tells_22 : decode cX11_tells 22 = .ok (.invokevirtual 151, 3) := by decide +kernel
theorem dX11_tells_25 : decode cX11_tells 25 = .ok (.iload_n 2, 1) := by decide +kernel
theorem dX11_tells_26 : decode cX11_tells 26 = .ok (.tableswitch 144 0 7 #[46, 53, 60, 67, 90, 113, 125, 137], 46) := by decide +kernel
theorem dX11_tells_72 : decode cX11_tells 72 = .ok (.aload_n 3, 1) := by decide +kernel
theorem dX11_tells_73 : decode cX11_tells 73 = .ok (.getfield 154, 3) := by decide +kernel
theorem dX11_tells_76 : decode cX11_tells 76 = .ok (.iload_n 1, 1) := by decide +kernel
theorem dX11_tells_77 : decode cX11_tells 77 = .ok (.iaload, 1) := by decide +kernel
theorem dX11_tells_78 : decode cX11_tells 78 = .ok (.ireturn, 1) := by decide +kernel
theorem dX11_tells_79 : decode cX11_tells 79 = .ok (.aload_n 3, 1) := by decide +kernel
theorem dX11_tells_80 : decode cX11_tells 80 = .ok (.getfield 157, 3) := by decide +kernel
theorem dX11_tells_83 : decode cX11_tells 83 = .ok (.iload_n 1, 1) := by decide +kernel
theorem dX11_tells_84 : decode cX11_tells 84 = .ok (.iaload, 1) := by decide +kernel
theorem dX11_tells_85 : decode cX11_tells 85 = .ok (.ireturn, 1) := by decide +kernel
theorem dX11_tells_86 : decode cX11_tells 86 = .ok (.aload_n 3, 1) := by decide +kernel
theorem dX11_tells_87 : decode cX11_tells 87 = .ok (.getfield 160, 3) := by decide +kernel
theorem dX11_tells_90 : decode cX11_tells 90 = .ok (.iload_n 1, 1) := by decide +kernel
theorem dX11_tells_91 : decode cX11_tells 91 = .ok (.iaload, 1) := by decide +kernel
theorem dX11_tells_92 : decode cX11_tells 92 = .ok (.ireturn, 1) := by decide +kernel
theorem dX11_tells_93 : decode cX11_tells 93 = .ok (.aload_n 3, 1) := by decide +kernel
theorem dX11_tells_94 : decode cX11_tells 94 = .ok (.getfield 154, 3) := by decide +kernel
theorem dX11_tells_97 : decode cX11_tells 97 = .ok (.iload_n 1, 1) := by decide +kernel
theorem dX11_tells_98 : decode cX11_tells 98 = .ok (.iaload, 1) := by decide +kernel
theorem dX11_tells_99 : decode cX11_tells 99 = .ok (.iconst (-1), 1) := by decide +kernel
theorem dX11_tells_100 : decode cX11_tells 100 = .ok (.if_icmp .ne 7, 3) := by decide +kernel
theorem dX11_tells_107 : decode cX11_tells 107 = .ok (.aload_n 0, 1) := by decide +kernel
theorem dX11_tells_108 : decode cX11_tells 108 = .ok (.getfield 12, 3) := by decide +kernel
theorem dX11_tells_111 : decode cX11_tells 111 = .ok (.iload_n 1, 1) := by decide +kernel
theorem dX11_tells_112 : decode cX11_tells 112 = .ok (.invokevirtual 163, 3) := by decide +kernel
theorem dX11_tells_103 : decode cX11_tells 103 = .ok (.iconst (-1), 1) := by decide +kernel
theorem dX11_tells_104 : decode cX11_tells 104 = .ok (.goto 11, 3) := by decide +kernel
theorem dX11_tells_115 : decode cX11_tells 115 = .ok (.ireturn, 1) := by decide +kernel
theorem dX11_tells_116 : decode cX11_tells 116 = .ok (.aload_n 0, 1) := by decide +kernel
theorem dX11_tells_117 : decode cX11_tells 117 = .ok (.getfield 12, 3) := by decide +kernel
theorem dX11_tells_120 : decode cX11_tells 120 = .ok (.aload_n 3, 1) := by decide +kernel
theorem dX11_tells_121 : decode cX11_tells 121 = .ok (.getfield 154, 3) := by decide +kernel
theorem dX11_tells_124 : decode cX11_tells 124 = .ok (.iload_n 1, 1) := by decide +kernel
theorem dX11_tells_125 : decode cX11_tells 125 = .ok (.iaload, 1) := by decide +kernel
theorem dX11_tells_126 : decode cX11_tells 126 = .ok (.iload_n 1, 1) := by decide +kernel
theorem dX11_tells_127 : decode cX11_tells 127 = .ok (.invokevirtual 166, 3) := by decide +kernel
theorem dX11_tells_130 : decode cX11_tells 130 = .ok (.ifCond .eq 7, 3) := by decide +kernel
theorem dX11_tells_137 : decode cX11_tells 137 = .ok (.iconst 0, 1) := by decide +kernel
theorem dX11_tells_133 : decode cX11_tells 133 = .ok (.iconst 1, 1) := by decide +kernel
theorem dX11_tells_134 : decode cX11_tells 134 = .ok (.goto 4, 3) := by decide +kernel
theorem dX11_tells_138 : decode cX11_tells 138 = .ok (.ireturn, 1) := by decide +kernel
theorem dX11_tells_139 : decode cX11_tells 139 = .ok (.aload_n 0, 1) := by decide +kernel
theorem dX11_tells_140 : decode cX11_tells 140 = .ok (.getfield 12, 3) := by decide +kernel
theorem dX11_tells_143 : decode cX11_tells 143 = .ok (.getfield 170, 3) := by decide +kernel
theorem dX11_tells_146 : decode cX11_tells 146 = .ok (.iload_n 1, 1) := by decide +kernel
theorem dX11_tells_147 : decode cX11_tells 147 = .ok (.invokevirtual 174, 3) := by decide +kernel
theorem dX11_tells_150 : decode cX11_tells 150 = .ok (.ireturn, 1) := by decide +kernel
theorem dX11_tells_151 : decode cX11_tells 151 = .ok (.aload_n 0, 1) := by decide +kernel
theorem dX11_tells_152 : decode cX11_tells 152 = .ok (.getfield 12, 3) := by decide +kernel
theorem dX11_tells_155 : decode cX11_tells 155 = .ok (.getfield 170, 3) := by decide +kernel
theorem dX11_tells_158 : decode cX11_tells 158 = .ok (.iload_n 1, 1) := by decide +kernel
theorem dX11_tells_159 : decode cX11_tells 159 = .ok (.invokevirtual 179, 3) := by decide +kernel
theorem dX11_tells_162 : decode cX11_tells 162 = .ok (.ireturn, 1) := by decide +kernel
theorem dX11_tells_163 : decode cX11_tells 163 = .ok (.aload_n 3, 1) := by decide +kernel
theorem dX11_tells_164 : decode cX11_tells 164 = .ok (.getfield 182, 3) := by decide +kernel
theorem dX11_tells_167 : decode cX11_tells 167 = .ok (.iload_n 1, 1) := by decide +kernel
theorem dX11_tells_168 : decode cX11_tells 168 = .ok (.iaload, 1) := by decide +kernel
theorem dX11_tells_169 : decode cX11_tells 169 = .ok (.ireturn, 1) := by decide +kernel
theorem dX11_tells_170 : decode cX11_tells 170 = .ok (.iconst (-1), 1) := by decide +kernel
theorem dX11_tells_171 : decode cX11_tells 171 = .ok (.ireturn, 1) := by decide +kernel
theorem dX11_tells_16 : decode cX11_tells 16 = .ok (.iconst (-1), 1) := by decide +kernel
theorem dX11_tells_17 : decode cX11_tells 17 = .ok (.ireturn, 1) := by decide +kernel
theorem dX11_text_0 : decode cX11_text 0 = .ok (.iload_n 1, 1) := by decide +kernel
theorem dX11_text_1 : decode cX11_text 1 = .ok (.invokestatic 191, 3) := by decide +kernel
theorem dX11_text_4 : decode cX11_text 4 = .ok (.ifCond .ne 9, 3) := by decide +kernel
theorem dX11_text_13 : decode cX11_text 13 = .ok (.aload_n 0, 1) := by decide +kernel
theorem dX11_text_14 : decode cX11_text 14 = .ok (.getfield 12, 3) := by decide +kernel
theorem dX11_text_17 : decode cX11_text 17 = .ok (.getfield 219, 3) := by decide +kernel
theorem dX11_text_20 : decode cX11_text 20 = .ok (.getfield 223, 3) := by decide +kernel
theorem dX11_text_23 : decode cX11_text 23 = .ok (.bipush 20, 2) := by decide +kernel
theorem dX11_text_25 : decode cX11_text 25 = .ok (.if_icmp .lt 10, 3) := by decide +kernel
theorem dX11_text_35 : decode cX11_text 35 = .ok (.aload_n 0, 1) := by decide +kernel
theorem dX11_text_36 : decode cX11_text 36 = .ok (.getfield 37, 3) := by decide +kernel
theorem dX11_text_39 : decode cX11_text 39 = .ok (.aload_n 0, 1) := by decide +kernel
theorem dX11_text_40 : decode cX11_text 40 = .ok (.getfield 30, 3) := by decide +kernel
theorem dX11_text_43 : decode cX11_text 43 = .ok (.iload_n 1, 1) := by decide +kernel
theorem dX11_text_44 : decode cX11_text 44 = .ok (.invokevirtual 226, 3) := by decide +kernel
theorem dX11_text_47 : decode cX11_text 47 = .ok (.astore_n 2, 1) := by decide +kernel
theorem dX11_text_48 : decode cX11_text 48 = .ok (.aload_n 0, 1) := by decide +kernel
theorem dX11_text_49 : decode cX11_text 49 = .ok (.getfield 30, 3) := by decide +kernel
theorem dX11_text_52 : decode cX11_text 52 = .ok (.iconst 0, 1) := by decide +kernel
theorem dX11_text_53 : decode cX11_text 53 = .ok (.putfield 209, 3) := by decide +kernel
theorem dX11_text_56 : decode cX11_text 56 = .ok (.aload_n 2, 1) := by decide +kernel
theorem dX11_text_57 : decode cX11_text 57 = .ok (.ifnonnull 10, 3) := by decide +kernel
theorem dX11_text_60 : decode cX11_text 60 = .ok (.aload_n 0, 1) := by decide +kernel
theorem dX11_text_61 : decode cX11_text 61 = .ok (.bipush (-6), 2) := by decide +kernel
theorem dX11_text_63 : decode cX11_text 63 = .ok (.invokevirtual 59, 3) := by decide +kernel
theorem dX11_text_66 : decode cX11_text 66 = .ok (.ireturn, 1) := by decide +kernel
theorem dX11_text_67 : decode cX11_text 67 = .ok (.aload_n 0, 1) := by decide +kernel
theorem dX11_text_68 : decode cX11_text 68 = .ok (.aload_n 0, 1) := by decide +kernel
theorem dX11_text_69 : decode cX11_text 69 = .ok (.getfield 12, 3) := by decide +kernel
theorem dX11_text_72 : decode cX11_text 72 = .ok (.getfield 219, 3) := by decide +kernel
theorem dX11_text_75 : decode cX11_text 75 = .ok (.aload_n 2, 1) := by decide +kernel
theorem dX11_text_76 : decode cX11_text 76 = .ok (.invokevirtual 230, 3) := by decide +kernel
theorem dX11_text_79 : decode cX11_text 79 = .ok (.invokevirtual 77, 3) := by decide +kernel
theorem dX11_text_82 : decode cX11_text 82 = .ok (.ireturn, 1) := by decide +kernel
theorem dX11_text_28 : decode cX11_text 28 = .ok (.aload_n 0, 1) := by decide +kernel
theorem dX11_text_29 : decode cX11_text 29 = .ok (.bipush (-5), 2) := by decide +kernel
theorem dX11_text_31 : decode cX11_text 31 = .ok (.invokevirtual 59, 3) := by decide +kernel
theorem dX11_text_34 : decode cX11_text 34 = .ok (.ireturn, 1) := by decide +kernel
theorem dX11_text_7 : decode cX11_text 7 = .ok (.aload_n 0, 1) := by decide +kernel
theorem dX11_text_8 : decode cX11_text 8 = .ok (.iconst (-1), 1) := by decide +kernel
theorem dX11_text_9 : decode cX11_text 9 = .ok (.invokevirtual 59, 3) := by decide +kernel
theorem dX11_text_12 : decode cX11_text 12 = .ok (.ireturn, 1) := by decide +kernel
theorem dX11_wish_0 : decode cX11_wish 0 = .ok (.aload_n 0, 1) := by decide +kernel
theorem dX11_wish_1 : decode cX11_wish 1 = .ok (.getfield 12, 3) := by decide +kernel
theorem dX11_wish_4 : decode cX11_wish 4 = .ok (.getfield 114, 3) := by decide +kernel
theorem dX11_wish_7 : decode cX11_wish 7 = .ok (.iload_n 1, 1) := by decide +kernel
theorem dX11_wish_8 : decode cX11_wish 8 = .ok (.invokevirtual 150, 3) := by decide +kernel
theorem dX11_wish_11 : decode cX11_wish 11 = .ok (.ifCond .ne 10, 3) := by decide +kernel
theorem dX11_wish_21 : decode cX11_wish 21 = .ok (.aload_n 0, 1) := by decide +kernel
theorem dX11_wish_22 : decode cX11_wish 22 = .ok (.getfield 12, 3) := by decide +kernel
theorem dX11_wish_25 : decode cX11_wish 25 = .ok (.getfield 114, 3) := by decide +kernel
theorem dX11_wish_28 : decode cX11_wish 28 = .ok (.getfield 154, 3) := by decide +kernel
theorem dX11_wish_31 : decode cX11_wish 31 = .ok (.iload_n 1, 1) := by decide +kernel
theorem dX11_wish_32 : decode cX11_wish 32 = .ok (.iaload, 1) := by decide +kernel
theorem dX11_wish_33 : decode cX11_wish 33 = .ok (.iconst (-1), 1) := by decide +kernel
theorem dX11_wish_34 : decode cX11_wish 34 = .ok (.if_icmp .ne 10, 3) := by decide +kernel
theorem dX11_wish_44 : decode cX11_wish 44 = .ok (.aload_n 0, 1) := by decide +kernel
theorem dX11_wish_45 : decode cX11_wish 45 = .ok (.iload_n 1, 1) := by decide +kernel
theorem dX11_wish_46 : decode cX11_wish 46 = .ok (.invokevirtual 306, 3) := by decide +kernel
theorem dX11_wish_49 : decode cX11_wish 49 = .ok (.ifCond .eq 10, 3) := by decide +kernel
theorem dX11_wish_59 : decode cX11_wish 59 = .ok (.aload_n 0, 1) := by decide +kernel
theorem dX11_wish_60 : decode cX11_wish 60 = .ok (.getfield 309, 3) := by decide +kernel
theorem dX11_wish_63 : decode cX11_wish 63 = .ok (.bipush 6, 2) := by decide +kernel
theorem dX11_wish_65 : decode cX11_wish 65 = .ok (.if_icmp .lt 10, 3) := by decide +kernel
theorem dX11_wish_75 : decode cX11_wish 75 = .ok (.aload_n 0, 1) := by decide +kernel
theorem dX11_wish_76 : decode cX11_wish 76 = .ok (.getfield 41, 3) := by decide +kernel
theorem dX11_wish_79 : decode cX11_wish 79 = .ok (.aload_n 0, 1) := by decide +kernel
theorem dX11_wish_80 : decode cX11_wish 80 = .ok (.getfield 309, 3) := by decide +kernel
theorem dX11_wish_83 : decode cX11_wish 83 = .ok (.iload_n 1, 1) := by decide +kernel
theorem dX11_wish_84 : decode cX11_wish 84 = .ok (.iastore, 1) := by decide +kernel
theorem dX11_wish_85 : decode cX11_wish 85 = .ok (.aload_n 0, 1) := by decide +kernel
theorem dX11_wish_86 : decode cX11_wish 86 = .ok (.dup, 1) := by decide +kernel
theorem dX11_wish_87 : decode cX11_wish 87 = .ok (.getfield 309, 3) := by decide +kernel
theorem dX11_wish_90 : decode cX11_wish 90 = .ok (.iconst 1, 1) := by decide +kernel
theorem dX11_wish_91 : decode cX11_wish 91 = .ok (.iadd, 1) := by decide +kernel
theorem dX11_wish_92 : decode cX11_wish 92 = .ok (.putfield 309, 3) := by decide +kernel
theorem dX11_wish_95 : decode cX11_wish 95 = .ok (.aload_n 0, 1) := by decide +kernel
theorem dX11_wish_96 : decode cX11_wish 96 = .ok (.aload_n 0, 1) := by decide +kernel
theorem dX11_wish_97 : decode cX11_wish 97 = .ok (.getfield 309, 3) := by decide +kernel
theorem dX11_wish_100 : decode cX11_wish 100 = .ok (.invokevirtual 77, 3) := by decide +kernel
theorem dX11_wish_103 : decode cX11_wish 103 = .ok (.ireturn, 1) := by decide +kernel
theorem dX11_wish_68 : decode cX11_wish 68 = .ok (.aload_n 0, 1) := by decide +kernel
theorem dX11_wish_69 : decode cX11_wish 69 = .ok (.bipush (-5), 2) := by decide +kernel
theorem dX11_wish_71 : decode cX11_wish 71 = .ok (.invokevirtual 59, 3) := by decide +kernel
theorem dX11_wish_74 : decode cX11_wish 74 = .ok (.ireturn, 1) := by decide +kernel
theorem dX11_wish_52 : decode cX11_wish 52 = .ok (.aload_n 0, 1) := by decide +kernel
theorem dX11_wish_53 : decode cX11_wish 53 = .ok (.bipush (-4), 2) := by decide +kernel
theorem dX11_wish_55 : decode cX11_wish 55 = .ok (.invokevirtual 59, 3) := by decide +kernel
theorem dX11_wish_58 : decode cX11_wish 58 = .ok (.ireturn, 1) := by decide +kernel
theorem dX11_wish_37 : decode cX11_wish 37 = .ok (.aload_n 0, 1) := by decide +kernel
theorem dX11_wish_38 : decode cX11_wish 38 = .ok (.bipush (-3), 2) := by decide +kernel
theorem dX11_wish_40 : decode cX11_wish 40 = .ok (.invokevirtual 59, 3) := by decide +kernel
theorem dX11_wish_43 : decode cX11_wish 43 = .ok (.ireturn, 1) := by decide +kernel
theorem dX11_wish_14 : decode cX11_wish 14 = .ok (.aload_n 0, 1) := by decide +kernel
theorem dX11_wish_15 : decode cX11_wish 15 = .ok (.bipush (-2), 2) := by decide +kernel
theorem dX11_wish_17 : decode cX11_wish 17 = .ok (.invokevirtual 59, 3) := by decide +kernel
theorem dX11_wish_20 : decode cX11_wish 20 = .ok (.ireturn, 1) := by decide +kernel
theorem dX11_writ_0 : decode cX11_writ 0 = .ok (.aload_n 0, 1) := by decide +kernel
theorem dX11_writ_1 : decode cX11_writ 1 = .ok (.getfield 12, 3) := by decide +kernel
theorem dX11_writ_4 : decode cX11_writ 4 = .ok (.getfield 114, 3) := by decide +kernel
theorem dX11_writ_7 : decode cX11_writ 7 = .ok (.astore_n 2, 1) := by decide +kernel
theorem dX11_writ_8 : decode cX11_writ 8 = .ok (.aload_n 0, 1) := by decide +kernel
theorem dX11_writ_9 : decode cX11_writ 9 = .ok (.getfield 12, 3) := by decide +kernel
theorem dX11_writ_12 : decode cX11_writ 12 = .ok (.getfield 170, 3) := by decide +kernel
theorem dX11_writ_15 : decode cX11_writ 15 = .ok (.astore_n 3, 1) := by decide +kernel
theorem dX11_writ_16 : decode cX11_writ 16 = .ok (.aload_n 2, 1) := by decide +kernel
theorem dX11_writ_17 : decode cX11_writ 17 = .ok (.iload_n 1, 1) := by decide +kernel
theorem dX11_writ_18 : decode cX11_writ 18 = .ok (.invokevirtual 150, 3) := by decide +kernel
theorem dX11_writ_21 : decode cX11_writ 21 = .ok (.ifCond .ne 10, 3) := by decide +kernel
theorem dX11_writ_31 : decode cX11_writ 31 = .ok (.aload_n 2, 1) := by decide +kernel
theorem dX11_writ_32 : decode cX11_writ 32 = .ok (.getfield 154, 3) := by decide +kernel
theorem dX11_writ_35 : decode cX11_writ 35 = .ok (.iload_n 1, 1) := by decide +kernel
theorem dX11_writ_36 : decode cX11_writ 36 = .ok (.iaload, 1) := by decide +kernel
theorem dX11_writ_37 : decode cX11_writ 37 = .ok (.iconst (-1), 1) := by decide +kernel
theorem dX11_writ_38 : decode cX11_writ 38 = .ok (.if_icmp .eq 21, 3) := by decide +kernel
theorem dX11_writ_59 : decode cX11_writ 59 = .ok (.aload_n 0, 1) := by decide +kernel
theorem dX11_writ_60 : decode cX11_writ 60 = .ok (.bipush (-3), 2) := by decide +kernel
theorem dX11_writ_62 : decode cX11_writ 62 = .ok (.invokevirtual 59, 3) := by decide +kernel
theorem dX11_writ_65 : decode cX11_writ 65 = .ok (.ireturn, 1) := by decide +kernel
theorem dX11_writ_41 : decode cX11_writ 41 = .ok (.aload_n 2, 1) := by decide +kernel
theorem dX11_writ_42 : decode cX11_writ 42 = .ok (.getfield 160, 3) := by decide +kernel
theorem dX11_writ_45 : decode cX11_writ 45 = .ok (.iload_n 1, 1) := by decide +kernel
theorem dX11_writ_46 : decode cX11_writ 46 = .ok (.iaload, 1) := by decide +kernel
theorem dX11_writ_47 : decode cX11_writ 47 = .ok (.ifCond .eq 12, 3) := by decide +kernel
theorem dX11_writ_50 : decode cX11_writ 50 = .ok (.aload_n 3, 1) := by decide +kernel
theorem dX11_writ_51 : decode cX11_writ 51 = .ok (.iload_n 1, 1) := by decide +kernel
theorem dX11_writ_52 : decode cX11_writ 52 = .ok (.invokevirtual 248, 3) := by decide +kernel
theorem dX11_writ_55 : decode cX11_writ 55 = .ok (.iconst (-1), 1) := by decide +kernel
theorem dX11_writ_56 : decode cX11_writ 56 = .ok (.if_icmp .eq 10, 3) := by decide +kernel
theorem dX11_writ_66 : decode cX11_writ 66 = .ok (.aload_n 3, 1) := by decide +kernel
theorem dX11_writ_67 : decode cX11_writ 67 = .ok (.getfield 251, 3) := by decide +kernel
theorem dX11_writ_70 : decode cX11_writ 70 = .ok (.bipush 60, 2) := by decide +kernel
theorem dX11_writ_72 : decode cX11_writ 72 = .ok (.if_icmp .lt 10, 3) := by decide +kernel
theorem dX11_writ_82 : decode cX11_writ 82 = .ok (.aload_n 0, 1) := by decide +kernel
theorem dX11_writ_83 : decode cX11_writ 83 = .ok (.getfield 12, 3) := by decide +kernel
theorem dX11_writ_86 : decode cX11_writ 86 = .ok (.invokevirtual 151, 3) := by decide +kernel
theorem dX11_writ_89 : decode cX11_writ 89 = .ok (.aload_n 3, 1) := by decide +kernel
theorem dX11_writ_90 : decode cX11_writ 90 = .ok (.iload_n 1, 1) := by decide +kernel
theorem dX11_writ_91 : decode cX11_writ 91 = .ok (.aload_n 2, 1) := by decide +kernel
theorem dX11_writ_92 : decode cX11_writ 92 = .ok (.getfield 154, 3) := by decide +kernel
theorem dX11_writ_95 : decode cX11_writ 95 = .ok (.iload_n 1, 1) := by decide +kernel
theorem dX11_writ_96 : decode cX11_writ 96 = .ok (.iaload, 1) := by decide +kernel
theorem dX11_writ_97 : decode cX11_writ 97 = .ok (.aload_n 0, 1) := by decide +kernel
theorem dX11_writ_98 : decode cX11_writ 98 = .ok (.getfield 12, 3) := by decide +kernel
theorem dX11_writ_101 : decode cX11_writ 101 = .ok (.getfield 219, 3) := by decide +kernel
theorem dX11_writ_104 : decode cX11_writ 104 = .ok (.iconst 0, 1) := by decide +kernel
theorem dX11_writ_105 : decode cX11_writ 105 = .ok (.invokevirtual 252, 3) := by decide +kernel
theorem dX11_writ_108 : decode cX11_writ 108 = .ok (.aload_n 0, 1) := by decide +kernel
theorem dX11_writ_109 : decode cX11_writ 109 = .ok (.getfield 12, 3) := by decide +kernel
theorem dX11_writ_112 : decode cX11_writ 112 = .ok (.getfield 255, 3) := by decide +kernel
theorem dX11_writ_115 : decode cX11_writ 115 = .ok (.invokevirtual 258, 3) := by decide +kernel
theorem dX11_writ_118 : decode cX11_writ 118 = .ok (.aload_n 0, 1) := by decide +kernel
theorem dX11_writ_119 : decode cX11_writ 119 = .ok (.aload_n 3, 1) := by decide +kernel
theorem dX11_writ_120 : decode cX11_writ 120 = .ok (.getfield 251, 3) := by decide +kernel
theorem dX11_writ_123 : decode cX11_writ 123 = .ok (.invokevirtual 77, 3) := by decide +kernel
theorem dX11_writ_126 : decode cX11_writ 126 = .ok (.ireturn, 1) := by decide +kernel
theorem dX11_writ_75 : decode cX11_writ 75 = .ok (.aload_n 0, 1) := by decide +kernel
theorem dX11_writ_76 : decode cX11_writ 76 = .ok (.bipush (-5), 2) := by decide +kernel
theorem dX11_writ_78 : decode cX11_writ 78 = .ok (.invokevirtual 59, 3) := by decide +kernel
theorem dX11_writ_81 : decode cX11_writ 81 = .ok (.ireturn, 1) := by decide +kernel
theorem dX11_writ_24 : decode cX11_writ 24 = .ok (.aload_n 0, 1) := by decide +kernel
theorem dX11_writ_25 : decode cX11_writ 25 = .ok (.bipush (-2), 2) := by decide +kernel
theorem dX11_writ_27 : decode cX11_writ 27 = .ok (.invokevirtual 59, 3) := by decide +kernel
theorem dX11_writ_30 : decode cX11_writ 30 = .ok (.ireturn, 1) := by decide +kernel
theorem dX8_numberOf_0 : decode cX8_numberOf 0 = .ok (.aload_n 0, 1) := by decide +kernel
theorem dX8_numberOf_1 : decode cX8_numberOf 1 = .ok (.iload_n 1, 1) := by decide +kernel
theorem dX8_numberOf_2 : decode cX8_numberOf 2 = .ok (.iconst (-1), 1) := by decide +kernel
theorem dX8_numberOf_3 : decode cX8_numberOf 3 = .ok (.invokevirtual 36, 3) := by decide +kernel
theorem dX8_nearest_0 : decode cX8_nearest 0 = .ok (.iload_n 1, 1) := by decide +kernel
theorem dX8_nearest_1 : decode cX8_nearest 1 = .ok (.istore_n 3, 1) := by decide +kernel
theorem dX8_nearest_2 : decode cX8_nearest 2 = .ok (.iload_n 3, 1) := by decide +kernel
theorem dX8_nearest_3 : decode cX8_nearest 3 = .ok (.ifCond .lt 36, 3) := by decide +kernel
theorem dX8_nearest_6 : decode cX8_nearest 6 = .ok (.iload_n 3, 1) := by decide +kernel
theorem dX8_nearest_7 : decode cX8_nearest 7 = .ok (.aload_n 0, 1) := by decide +kernel
theorem dX8_nearest_8 : decode cX8_nearest 8 = .ok (.getfield 29, 3) := by decide +kernel
theorem dX8_nearest_11 : decode cX8_nearest 11 = .ok (.if_icmp .ge 28, 3) := by decide +kernel
theorem dX8_nearest_14 : decode cX8_nearest 14 = .ok (.aload_n 0, 1) := by decide +kernel
theorem dX8_nearest_15 : decode cX8_nearest 15 = .ok (.getfield 15, 3) := by decide +kernel
theorem dX8_nearest_18 : decode cX8_nearest 18 = .ok (.iload_n 3, 1) := by decide +kernel
theorem dX8_nearest_19 : decode cX8_nearest 19 = .ok (.daload, 1) := by decide +kernel
theorem dX8_nearest_20 : decode cX8_nearest 20 = .ok (.dconst 0, 1) := by decide +kernel
theorem dX8_nearest_21 : decode cX8_nearest 21 = .ok (.dcmp .l, 1) := by decide +kernel
theorem dX8_nearest_22 : decode cX8_nearest 22 = .ok (.ifCond .lt 10, 3) := by decide +kernel
theorem dX8_nearest_32 : decode cX8_nearest 32 = .ok (.iload_n 3, 1) := by decide +kernel
theorem dX8_nearest_33 : decode cX8_nearest 33 = .ok (.iload_n 2, 1) := by decide +kernel
theorem dX8_nearest_34 : decode cX8_nearest 34 = .ok (.iadd, 1) := by decide +kernel
theorem dX8_nearest_35 : decode cX8_nearest 35 = .ok (.istore_n 3, 1) := by decide +kernel
theorem dX8_nearest_36 : decode cX8_nearest 36 = .ok (.goto (-34), 3) := by decide +kernel
theorem dX8_nearest_25 : decode cX8_nearest 25 = .ok (.aload_n 0, 1) := by decide +kernel
theorem dX8_nearest_26 : decode cX8_nearest 26 = .ok (.getfield 15, 3) := by decide +kernel
theorem dX8_nearest_29 : decode cX8_nearest 29 = .ok (.iload_n 3, 1) := by decide +kernel
theorem dX8_nearest_30 : decode cX8_nearest 30 = .ok (.daload, 1) := by decide +kernel
theorem dX8_nearest_31 : decode cX8_nearest 31 = .ok (.dreturn, 1) := by decide +kernel
theorem dX8_nearest_39 : decode cX8_nearest 39 = .ok (.ldc2_w 42, 3) := by decide +kernel
theorem dX8_numberOf_6 : decode cX8_numberOf 6 = .ok (.dstore_n 2, 1) := by decide +kernel
theorem dX8_numberOf_7 : decode cX8_numberOf 7 = .ok (.aload_n 0, 1) := by decide +kernel
theorem dX8_numberOf_8 : decode cX8_numberOf 8 = .ok (.iload_n 1, 1) := by decide +kernel
theorem dX8_numberOf_9 : decode cX8_numberOf 9 = .ok (.iconst 1, 1) := by decide +kernel
theorem dX8_numberOf_10 : decode cX8_numberOf 10 = .ok (.invokevirtual 36, 3) := by decide +kernel
theorem dX8_numberOf_13 : decode cX8_numberOf 13 = .ok (.dstore 4, 2) := by decide +kernel
theorem dX8_numberOf_15 : decode cX8_numberOf 15 = .ok (.dload_n 2, 1) := by decide +kernel
theorem dX8_numberOf_16 : decode cX8_numberOf 16 = .ok (.dconst 0, 1) := by decide +kernel
theorem dX8_numberOf_17 : decode cX8_numberOf 17 = .ok (.dcmp .g, 1) := by decide +kernel
theorem dX8_numberOf_18 : decode cX8_numberOf 18 = .ok (.ifCond .ge 17, 3) := by decide +kernel
theorem dX8_numberOf_35 : decode cX8_numberOf 35 = .ok (.dload 4, 2) := by decide +kernel
theorem dX8_numberOf_37 : decode cX8_numberOf 37 = .ok (.dconst 0, 1) := by decide +kernel
theorem dX8_numberOf_38 : decode cX8_numberOf 38 = .ok (.dcmp .g, 1) := by decide +kernel
theorem dX8_numberOf_39 : decode cX8_numberOf 39 = .ok (.ifCond .ge 7, 3) := by decide +kernel
theorem dX8_numberOf_46 : decode cX8_numberOf 46 = .ok (.dload_n 2, 1) := by decide +kernel
theorem dX8_numberOf_47 : decode cX8_numberOf 47 = .ok (.dload 4, 2) := by decide +kernel
theorem dX8_numberOf_49 : decode cX8_numberOf 49 = .ok (.dadd, 1) := by decide +kernel
theorem dX8_readNumbers_0 : decode cX8_readNumbers 0 = .ok (.aload_n 0, 1) := by decide +kernel
theorem dX8_readNumbers_1 : decode cX8_readNumbers 1 = .ok (.aload_n 0, 1) := by decide +kernel
theorem dX8_readNumbers_2 : decode cX8_readNumbers 2 = .ok (.getfield 19, 3) := by decide +kernel
theorem dX8_readNumbers_5 : decode cX8_readNumbers 5 = .ok (.iconst 4, 1) := by decide +kernel
theorem dX8_readNumbers_6 : decode cX8_readNumbers 6 = .ok (.idiv, 1) := by decide +kernel
theorem dX8_readNumbers_7 : decode cX8_readNumbers 7 = .ok (.bipush 40, 2) := by decide +kernel
theorem dX8_readNumbers_9 : decode cX8_readNumbers 9 = .ok (.invokestatic 23, 3) := by decide +kernel
theorem dX8_readNumbers_12 : decode cX8_readNumbers 12 = .ok (.putfield 29, 3) := by decide +kernel
theorem dX8_readNumbers_15 : decode cX8_readNumbers 15 = .ok (.iconst 0, 1) := by decide +kernel
theorem dX8_readNumbers_16 : decode cX8_readNumbers 16 = .ok (.istore_n 1, 1) := by decide +kernel
theorem dX8_readNumbers_17 : decode cX8_readNumbers 17 = .ok (.iload_n 1, 1) := by decide +kernel
theorem dX8_readNumbers_18 : decode cX8_readNumbers 18 = .ok (.aload_n 0, 1) := by decide +kernel
theorem dX8_readNumbers_19 : decode cX8_readNumbers 19 = .ok (.getfield 29, 3) := by decide +kernel
theorem dX8_readNumbers_22 : decode cX8_readNumbers 22 = .ok (.if_icmp .ge 64, 3) := by decide +kernel
theorem dX8_readNumbers_25 : decode cX8_readNumbers 25 = .ok (.iload_n 1, 1) := by decide +kernel
theorem dX8_readNumbers_26 : decode cX8_readNumbers 26 = .ok (.iconst 4, 1) := by decide +kernel
theorem dX8_readNumbers_27 : decode cX8_readNumbers 27 = .ok (.imul, 1) := by decide +kernel
theorem dX8_readNumbers_28 : decode cX8_readNumbers 28 = .ok (.istore_n 2, 1) := by decide +kernel
theorem dX8_readNumbers_29 : decode cX8_readNumbers 29 = .ok (.aload_n 0, 1) := by decide +kernel
theorem dX8_readNumbers_30 : decode cX8_readNumbers 30 = .ok (.getfield 15, 3) := by decide +kernel
theorem dX8_readNumbers_33 : decode cX8_readNumbers 33 = .ok (.iload_n 1, 1) := by decide +kernel
theorem dX8_readNumbers_34 : decode cX8_readNumbers 34 = .ok (.aload_n 0, 1) := by decide +kernel
theorem dX8_readNumbers_35 : decode cX8_readNumbers 35 = .ok (.getfield 9, 3) := by decide +kernel
theorem dX8_readNumbers_38 : decode cX8_readNumbers 38 = .ok (.iload_n 2, 1) := by decide +kernel
theorem dX8_readNumbers_39 : decode cX8_readNumbers 39 = .ok (.iaload, 1) := by decide +kernel
theorem dX8_readNumbers_40 : decode cX8_readNumbers 40 = .ok (.bipush 24, 2) := by decide +kernel
theorem dX8_readNumbers_42 : decode cX8_readNumbers 42 = .ok (.ishl, 1) := by decide +kernel
theorem dX8_readNumbers_43 : decode cX8_readNumbers 43 = .ok (.aload_n 0, 1) := by decide +kernel
theorem dX8_readNumbers_44 : decode cX8_readNumbers 44 = .ok (.getfield 9, 3) := by decide +kernel
theorem dX8_readNumbers_47 : decode cX8_readNumbers 47 = .ok (.iload_n 2, 1) := by decide +kernel
theorem dX8_readNumbers_48 : decode cX8_readNumbers 48 = .ok (.iconst 1, 1) := by decide +kernel
theorem dX8_readNumbers_49 : decode cX8_readNumbers 49 = .ok (.iadd, 1) := by decide +kernel
theorem dX8_readNumbers_50 : decode cX8_readNumbers 50 = .ok (.iaload, 1) := by decide +kernel
theorem dX8_readNumbers_51 : decode cX8_readNumbers 51 = .ok (.bipush 16, 2) := by decide +kernel
theorem dX8_readNumbers_53 : decode cX8_readNumbers 53 = .ok (.ishl, 1) := by decide +kernel
theorem dX8_readNumbers_54 : decode cX8_readNumbers 54 = .ok (.ior, 1) := by decide +kernel
theorem dX8_readNumbers_55 : decode cX8_readNumbers 55 = .ok (.aload_n 0, 1) := by decide +kernel
theorem dX8_readNumbers_56 : decode cX8_readNumbers 56 = .ok (.getfield 9, 3) := by decide +kernel
theorem dX8_readNumbers_59 : decode cX8_readNumbers 59 = .ok (.iload_n 2, 1) := by decide +kernel
theorem dX8_readNumbers_60 : decode cX8_readNumbers 60 = .ok (.iconst 2, 1) := by decide +kernel
theorem dX8_readNumbers_61 : decode cX8_readNumbers 61 = .ok (.iadd, 1) := by decide +kernel
theorem dX8_readNumbers_62 : decode cX8_readNumbers 62 = .ok (.iaload, 1) := by decide +kernel
theorem dX8_readNumbers_63 : decode cX8_readNumbers 63 = .ok (.bipush 8, 2) := by decide +kernel
theorem dX8_readNumbers_65 : decode cX8_readNumbers 65 = .ok (.ishl, 1) := by decide +kernel
theorem dX8_readNumbers_66 : decode cX8_readNumbers 66 = .ok (.ior, 1) := by decide +kernel
theorem dX8_readNumbers_67 : decode cX8_readNumbers 67 = .ok (.aload_n 0, 1) := by decide +kernel
theorem dX8_readNumbers_68 : decode cX8_readNumbers 68 = .ok (.getfield 9, 3) := by decide +kernel
theorem dX8_readNumbers_71 : decode cX8_readNumbers 71 = .ok (.iload_n 2, 1) := by decide +kernel
theorem dX8_readNumbers_72 : decode cX8_readNumbers 72 = .ok (.iconst 3, 1) := by decide +kernel
theorem dX8_readNumbers_73 : decode cX8_readNumbers 73 = .ok (.iadd, 1) := by decide +kernel
theorem dX8_readNumbers_74 : decode cX8_readNumbers 74 = .ok (.iaload, 1) := by decide +kernel
theorem dX8_readNumbers_75 : decode cX8_readNumbers 75 = .ok (.ior, 1) := by decide +kernel
theorem dX8_readNumbers_76 : decode cX8_readNumbers 76 = .ok (.invokestatic 32, 3) := by decide +kernel
theorem dX8_valueOf_0 : decode cX8_valueOf 0 = .ok (.iload_n 0, 1) := by decide +kernel
theorem dX8_valueOf_1 : decode cX8_valueOf 1 = .ok (.bipush 23, 2) := by decide +kernel
theorem dX8_valueOf_3 : decode cX8_valueOf 3 = .ok (.iushr, 1) := by decide +kernel
theorem dX8_valueOf_4 : decode cX8_valueOf 4 = .ok (.sipush 255, 3) := by decide +kernel
theorem dX8_valueOf_7 : decode cX8_valueOf 7 = .ok (.iand, 1) := by decide +kernel
theorem dX8_valueOf_8 : decode cX8_valueOf 8 = .ok (.istore_n 1, 1) := by decide +kernel
theorem dX8_valueOf_9 : decode cX8_valueOf 9 = .ok (.iload_n 0, 1) := by decide +kernel
theorem dX8_valueOf_10 : decode cX8_valueOf 10 = .ok (.ldc 44, 2) := by decide +kernel
theorem dX8_valueOf_12 : decode cX8_valueOf 12 = .ok (.iand, 1) := by decide +kernel
theorem dX8_valueOf_13 : decode cX8_valueOf 13 = .ok (.istore_n 2, 1) := by decide +kernel
theorem dX8_valueOf_14 : decode cX8_valueOf 14 = .ok (.iload_n 0, 1) := by decide +kernel
theorem dX8_valueOf_15 : decode cX8_valueOf 15 = .ok (.ifCond .ge 19, 3) := by decide +kernel
theorem dX8_valueOf_34 : decode cX8_valueOf 34 = .ok (.iload_n 1, 1) := by decide +kernel
theorem dX8_valueOf_35 : decode cX8_valueOf 35 = .ok (.sipush 136, 3) := by decide +kernel
theorem dX8_valueOf_38 : decode cX8_valueOf 38 = .ok (.if_icmp .le 7, 3) := by decide +kernel
theorem dX8_valueOf_45 : decode cX8_valueOf 45 = .ok (.iload_n 1, 1) := by decide +kernel
theorem dX8_valueOf_46 : decode cX8_valueOf 46 = .ok (.ifCond .ne 8, 3) := by decide +kernel
theorem dX8_valueOf_54 : decode cX8_valueOf 54 = .ok (.iload_n 2, 1) := by decide +kernel
theorem dX8_valueOf_55 : decode cX8_valueOf 55 = .ok (.ldc 45, 2) := by decide +kernel
theorem dX8_valueOf_57 : decode cX8_valueOf 57 = .ok (.ior, 1) := by decide +kernel
theorem dX8_valueOf_58 : decode cX8_valueOf 58 = .ok (.i2d, 1) := by decide +kernel
theorem dX8_valueOf_49 : decode cX8_valueOf 49 = .ok (.iload_n 2, 1) := by decide +kernel
theorem dX8_valueOf_50 : decode cX8_valueOf 50 = .ok (.i2d, 1) := by decide +kernel
theorem dX8_valueOf_51 : decode cX8_valueOf 51 = .ok (.goto 8, 3) := by decide +kernel
theorem dX8_valueOf_59 : decode cX8_valueOf 59 = .ok (.dstore_n 3, 1) := by decide +kernel
theorem dX8_valueOf_60 : decode cX8_valueOf 60 = .ok (.sipush 150, 3) := by decide +kernel
theorem dX8_valueOf_63 : decode cX8_valueOf 63 = .ok (.iload_n 1, 1) := by decide +kernel
theorem dX8_valueOf_64 : decode cX8_valueOf 64 = .ok (.iconst 1, 1) := by decide +kernel
theorem dX8_valueOf_65 : decode cX8_valueOf 65 = .ok (.invokestatic 46, 3) := by decide +kernel
theorem dX8_valueOf_68 : decode cX8_valueOf 68 = .ok (.isub, 1) := by decide +kernel
theorem dX8_valueOf_69 : decode cX8_valueOf 69 = .ok (.istore 5, 2) := by decide +kernel
theorem dX8_valueOf_71 : decode cX8_valueOf 71 = .ok (.iconst 0, 1) := by decide +kernel
theorem dX8_valueOf_72 : decode cX8_valueOf 72 = .ok (.istore 6, 2) := by decide +kernel
theorem dX8_valueOf_74 : decode cX8_valueOf 74 = .ok (.iload 6, 2) := by decide +kernel
theorem dX8_valueOf_76 : decode cX8_valueOf 76 = .ok (.iload 5, 2) := by decide +kernel
theorem dX8_valueOf_78 : decode cX8_valueOf 78 = .ok (.if_icmp .ge 15, 3) := by decide +kernel
theorem dX8_valueOf_81 : decode cX8_valueOf 81 = .ok (.dload_n 3, 1) := by decide +kernel
theorem dX8_valueOf_82 : decode cX8_valueOf 82 = .ok (.ldc2_w 40, 3) := by decide +kernel
theorem dX8_readNumbers_79 : decode cX8_readNumbers 79 = .ok (.dastore, 1) := by decide +kernel
theorem dX8_readNumbers_80 : decode cX8_readNumbers 80 = .ok (.iinc 1 1, 3) := by decide +kernel
theorem dX8_readNumbers_83 : decode cX8_readNumbers 83 = .ok (.goto (-66), 3) := by decide +kernel
theorem dX8_readNumbers_86 : decode cX8_readNumbers 86 = .ok (.aload_n 0, 1) := by decide +kernel
theorem dX8_readNumbers_87 : decode cX8_readNumbers 87 = .ok (.getfield 29, 3) := by decide +kernel
theorem dX8_readNumbers_90 : decode cX8_readNumbers 90 = .ok (.ireturn, 1) := by decide +kernel
def ms_J6_bitCount_0f7a4 : List (Nat × Nat) := []
def po_J6_bitCount_0f7a4 (kp : Nat → Nat) (L : List Nat) (f0 : Nat → va_E) (u1 : Int32) : Option Value → (Nat → va_E) → Prop := fun v f => (∃ r : Int32, v = some (.int r) ∧ ((0 : Int) ≤ r.toInt ∧ r.toInt ≤ 63)) ∧ FM kp L ms_J6_bitCount_0f7a4 f0 f
set_option maxHeartbeats 4000000 in
set_option maxRecDepth 100000 in
theorem c_J6_bitCount_0f7a4 (l : Launch) (G : va_G) (cI cJ cZ cD cR cT : ClassId) (kp : Nat → Nat) (L : List Nat) (f0 : Nat → va_E) (hTH : TH cI cJ cZ cD cR cT kp L f0) (sz : Nat) (u1 : Int32) (pu1 : (0 : Int) ≤ u1.toInt) : Met l yJ6_bitCount_0f7a4 (Cond.code yJ6_bitCount_0f7a4 cJ6_bitCount_0f7a4 1 (some .int) :: wTab) ({ frames := 1, cells := 0, slots := 0, locals := 40 }) (va_Pc [.int u1] (PreW G (tys6 cI cJ cZ cD cR cT) (va_pl L f0) sz)) (QT (po_J6_bitCount_0f7a4 kp L f0 u1) G cI cJ cZ cD cR cT (va_A (va_pl L f0) sz) kp L) 0 0 (va_A (va_pl L f0) sz) := by
  refine metT (by decide) (Nat.le_of_ble_eq_true rfl) hTH ?_
  intro p e s m below meth c A ls E hW hl
  obtain ⟨hx, hb, -, hml, hown, hts, -, -, -⟩ := id E
  have hF : FM kp L ms_J6_bitCount_0f7a4 f0 f0 := FM.rf
  have hl : lv_has ls 1 [(0, .int u1)] := hl
  refine lv_iload_n hx hb dJ6_bitCount_0f7a4_0 rfl (lv_at hl 0 rfl) ?_
  refine lv_iload_n hx hb dJ6_bitCount_0f7a4_1 rfl (lv_at hl 0 rfl) ?_
  refine lv_iconst (v := 1) hx hb dJ6_bitCount_0f7a4_2 (by decide) ?_
  refine u_iushr hx hb dJ6_bitCount_0f7a4_3 (fun x1369356 => ?_)
  refine lv_ldcw (v := 1431655765) hx hb hown (hts _ tw_1249) dJ6_bitCount_0f7a4_4 ?_
  refine u_iand hx hb dJ6_bitCount_0f7a4_7 (fun x1369357 => ?_)
  refine u_isub hx hb dJ6_bitCount_0f7a4_8 (fun x1369358 => ?_)
  refine lv_istore_n (lv' := [(0, .int x1369358)]) hx hb dJ6_bitCount_0f7a4_9 rfl hl (by decide) rfl (fun ls hl => ?_)
  refine lv_iload_n hx hb dJ6_bitCount_0f7a4_10 rfl (lv_at hl 0 rfl) ?_
  refine lv_ldcw (v := 858993459) hx hb hown (hts _ tw_1250) dJ6_bitCount_0f7a4_11 ?_
  refine u_iand hx hb dJ6_bitCount_0f7a4_14 (fun x1369359 => ?_)
  refine lv_iload_n hx hb dJ6_bitCount_0f7a4_15 rfl (lv_at hl 0 rfl) ?_
  refine lv_iconst (v := 2) hx hb dJ6_bitCount_0f7a4_16 (by decide) ?_
  refine u_iushr hx hb dJ6_bitCount_0f7a4_17 (fun x1369360 => ?_)
  refine lv_ldcw (v := 858993459) hx hb hown (hts _ tw_1250) dJ6_bitCount_0f7a4_18 ?_
  refine u_iand hx hb dJ6_bitCount_0f7a4_21 (fun x1369361 => ?_)
  refine u_iadd hx hb dJ6_bitCount_0f7a4_22 (fun x1369362 => ?_)
  refine lv_istore_n (lv' := [(0, .int x1369362)]) hx hb dJ6_bitCount_0f7a4_23 rfl hl (by decide) rfl (fun ls hl => ?_)
  refine lv_iload_n hx hb dJ6_bitCount_0f7a4_24 rfl (lv_at hl 0 rfl) ?_
  refine lv_iload_n hx hb dJ6_bitCount_0f7a4_25 rfl (lv_at hl 0 rfl) ?_
  refine lv_iconst (v := 4) hx hb dJ6_bitCount_0f7a4_26 (by decide) ?_
  refine u_iushr hx hb dJ6_bitCount_0f7a4_27 (fun x1369363 => ?_)
  refine u_iadd hx hb dJ6_bitCount_0f7a4_28 (fun x1369364 => ?_)
  refine lv_ldcw (v := 252645135) hx hb hown (hts _ tw_1251) dJ6_bitCount_0f7a4_29 ?_
  refine u_iand hx hb dJ6_bitCount_0f7a4_32 (fun x1369365 => ?_)
  refine lv_istore_n (lv' := [(0, .int x1369365)]) hx hb dJ6_bitCount_0f7a4_33 rfl hl (by decide) rfl (fun ls hl => ?_)
  refine lv_iload_n hx hb dJ6_bitCount_0f7a4_34 rfl (lv_at hl 0 rfl) ?_
  refine lv_iload_n hx hb dJ6_bitCount_0f7a4_35 rfl (lv_at hl 0 rfl) ?_
  refine lv_bipush (v := 8) hx hb dJ6_bitCount_0f7a4_36 (by decide) ?_
  refine u_iushr hx hb dJ6_bitCount_0f7a4_38 (fun x1369366 => ?_)
  refine u_iadd hx hb dJ6_bitCount_0f7a4_39 (fun x1369367 => ?_)
  refine lv_istore_n (lv' := [(0, .int x1369367)]) hx hb dJ6_bitCount_0f7a4_40 rfl hl (by decide) rfl (fun ls hl => ?_)
  refine lv_iload_n hx hb dJ6_bitCount_0f7a4_41 rfl (lv_at hl 0 rfl) ?_
  refine lv_iload_n hx hb dJ6_bitCount_0f7a4_42 rfl (lv_at hl 0 rfl) ?_
  refine lv_bipush (v := 16) hx hb dJ6_bitCount_0f7a4_43 (by decide) ?_
  refine u_iushr hx hb dJ6_bitCount_0f7a4_45 (fun x1369368 => ?_)
  refine u_iadd hx hb dJ6_bitCount_0f7a4_46 (fun x1369369 => ?_)
  refine lv_istore_n (lv' := [(0, .int x1369369)]) hx hb dJ6_bitCount_0f7a4_47 rfl hl (by decide) rfl (fun ls hl => ?_)
  refine lv_iload_n hx hb dJ6_bitCount_0f7a4_48 rfl (lv_at hl 0 rfl) ?_
  refine lv_bipush (v := 63) hx hb dJ6_bitCount_0f7a4_49 (by decide) ?_
  refine q_iand (M := 63) (k := 6) hx hb dJ6_bitCount_0f7a4_51 (by decide) (by decide) (by decide) (fun x1369370 h1369371 => ?_)
  exact e_I E hW rfl ⟨⟨_, rfl, (by first | omega | trivial)⟩, hF⟩ dJ6_bitCount_0f7a4_52
def ms_X4_add : List (Nat × Nat) := [(4, 0), (341, 0), (342, 0), (343, 0), (344, 0), (345, 0), (346, 0), (347, 0), (348, 0)]
def po_X4_add (kp : Nat → Nat) (L : List Nat) (f0 : Nat → va_E) (h0 : Nat) (u1 : Int32) (u2 : Int32) (u3 : Int32) : Option Value → (Nat → va_E) → Prop := fun v f => (∃ r : Int32, v = some (.int r) ∧ ((-1 : Int) ≤ r.toInt ∧ r.toInt ≤ 39)) ∧ FM kp L ms_X4_add f0 f
set_option maxHeartbeats 4000000 in
set_option maxRecDepth 100000 in
theorem c_X4_add (l : Launch) (G : va_G) (cI cJ cZ cD cR cT : ClassId) (kp : Nat → Nat) (L : List Nat) (f0 : Nat → va_E) (hTH : TH cI cJ cZ cD cR cT kp L f0) (sz : Nat) (h0 : Nat) (u1 : Int32) (u2 : Int32) (u3 : Int32) (rh0 : RK kp L h0 4) (pu1 : (0 : Int) ≤ u1.toInt ∧ u1.toInt ≤ 19) (pu2 : (0 : Int) ≤ u2.toInt ∧ u2.toInt ≤ 1000000) (pu3 : (0 : Int) ≤ u3.toInt ∧ u3.toInt ≤ 100) : Met l yX4_add (Cond.code yX4_add cX4_add 5 (some .int) :: wTab) ({ frames := 1, cells := 0, slots := 0, locals := 40 }) (va_Pc [.ref h0, .int u1, .int u2, .int u3] (PreW G (tys6 cI cJ cZ cD cR cT) (va_pl L f0) sz)) (QT (po_X4_add kp L f0 h0 u1 u2 u3) G cI cJ cZ cD cR cT (va_A (va_pl L f0) sz) kp L) 0 0 (va_A (va_pl L f0) sz) := by
  refine metT (by decide) (Nat.le_of_ble_eq_true rfl) hTH ?_
  intro p e s m below meth c A ls E hW hl
  obtain ⟨hx, hb, -, hml, hown, hts, -, -, -⟩ := id E
  have hF : FM kp L ms_X4_add f0 f0 := FM.rf
  have hl : lv_has ls 5 [(0, .ref h0), (1, .int u1), (2, .int u2), (3, .int u3)] := hl
  refine lv_aload_n hx hb dX4_add_0 rfl (lv_at hl 0 rfl) ?_
  refine fg_RX4_39 E hW rh0 dX4_add_1 (fun y1369372 m1369373 b1369374 => ?_)
  refine lv_bipush (v := 40) hx hb dX4_add_4 (by decide) ?_
  refine q_icmp_lt (Y := 40) (tgt := 11) hx hb dX4_add_6 (by decide) rfl rfl (fun c1369375 => ?_) (fun c1369375 => ?_)
  · refine lv_aload_n hx hb dX4_add_11 rfl (lv_at hl 0 rfl) ?_
    refine fg_RX4_39 E hW rh0 dX4_add_12 (fun y1369376 m1369377 b1369378 => ?_)
    obtain rfl : y1369372 = y1369376 := (m1369373).symm.trans m1369377
    refine lv_istore (lv' := [(4, .int y1369372), (0, .ref h0), (1, .int u1), (2, .int u2), (3, .int u3)]) hx hb dX4_add_15 hl (by decide) rfl (fun ls hl => ?_)
    refine lv_aload_n hx hb dX4_add_17 rfl (lv_at hl 1 rfl) ?_
    refine fg_RX4_9 E hW rh0 dX4_add_18 (fun a1369379 m1369380 r1369381 => ?_)
    refine lv_iload hx hb dX4_add_21 (lv_at hl 0 rfl) ?_
    refine lv_iload_n hx hb dX4_add_23 rfl (lv_at hl 2 rfl) ?_
    refine gs_341 E hW r1369381 ⟨by omega, by omega⟩ dX4_add_24 (fun f1369382 H locs e1369383 n1369384 g1369385 hW => ?_)
    have hF := FM.tr hF g1369385 rfl
    refine lv_aload_n hx hb dX4_add_25 rfl (lv_at hl 1 rfl) ?_
    refine fg_RX4_15 E hW rh0 dX4_add_26 (fun a1369386 m1369387 r1369388 => ?_)
    refine lv_iload hx hb dX4_add_29 (lv_at hl 0 rfl) ?_
    refine lv_iload_n hx hb dX4_add_31 rfl (lv_at hl 3 rfl) ?_
    refine gs_342 E hW r1369388 ⟨by omega, by omega⟩ dX4_add_32 (fun f1369389 H locs e1369390 n1369391 g1369392 hW => ?_)
    have hF := FM.tr hF g1369392 rfl
    refine lv_aload_n hx hb dX4_add_33 rfl (lv_at hl 1 rfl) ?_
    refine fg_RX4_18 E hW rh0 dX4_add_34 (fun a1369393 m1369394 r1369395 => ?_)
    refine lv_iload hx hb dX4_add_37 (lv_at hl 0 rfl) ?_
    refine lv_iload_n hx hb dX4_add_39 rfl (lv_at hl 4 rfl) ?_
    refine gs_343 E hW r1369395 ⟨by omega, by omega⟩ dX4_add_40 (fun f1369396 H locs e1369397 n1369398 g1369399 hW => ?_)
    have hF := FM.tr hF g1369399 rfl
    refine lv_aload_n hx hb dX4_add_41 rfl (lv_at hl 1 rfl) ?_
    refine fg_RX4_21 E hW rh0 dX4_add_42 (fun a1369400 m1369401 r1369402 => ?_)
    refine lv_iload hx hb dX4_add_45 (lv_at hl 0 rfl) ?_
    refine lv_iconst (v := (-1)) hx hb dX4_add_47 (by decide) ?_
    refine gs_344 E hW r1369402 ⟨by omega, by omega⟩ (by decide) dX4_add_48 (fun f1369403 H locs e1369404 n1369405 g1369406 hW => ?_)
    have hF := FM.tr hF g1369406 rfl
    refine lv_aload_n hx hb dX4_add_49 rfl (lv_at hl 1 rfl) ?_
    refine fg_RX4_24 E hW rh0 dX4_add_50 (fun a1369407 m1369408 r1369409 => ?_)
    refine lv_iload hx hb dX4_add_53 (lv_at hl 0 rfl) ?_
    refine lv_iconst (v := 0) hx hb dX4_add_55 (by decide) ?_
    refine gs_345 E hW r1369409 ⟨by omega, by omega⟩ dX4_add_56 (fun f1369410 H locs e1369411 n1369412 g1369413 hW => ?_)
    have hF := FM.tr hF g1369413 rfl
    refine lv_aload_n hx hb dX4_add_57 rfl (lv_at hl 1 rfl) ?_
    refine fg_RX4_27 E hW rh0 dX4_add_58 (fun a1369414 m1369415 r1369416 => ?_)
    refine lv_iload hx hb dX4_add_61 (lv_at hl 0 rfl) ?_
    refine lv_iconst (v := 0) hx hb dX4_add_63 (by decide) ?_
    refine gs_346 E hW r1369416 ⟨by omega, by omega⟩ dX4_add_64 (fun f1369417 H locs e1369418 n1369419 g1369420 hW => ?_)
    have hF := FM.tr hF g1369420 rfl
    refine lv_aload_n hx hb dX4_add_65 rfl (lv_at hl 1 rfl) ?_
    refine fg_RX4_30 E hW rh0 dX4_add_66 (fun a1369421 m1369422 r1369423 => ?_)
    refine lv_iload hx hb dX4_add_69 (lv_at hl 0 rfl) ?_
    refine lv_iconst (v := (-1)) hx hb dX4_add_71 (by decide) ?_
    refine gs_347 E hW r1369423 ⟨by omega, by omega⟩ dX4_add_72 (fun f1369424 H locs e1369425 n1369426 g1369427 hW => ?_)
    have hF := FM.tr hF g1369427 rfl
    refine lv_aload_n hx hb dX4_add_73 rfl (lv_at hl 1 rfl) ?_
    refine fg_RX4_33 E hW rh0 dX4_add_74 (fun a1369428 m1369429 r1369430 => ?_)
    refine lv_iload hx hb dX4_add_77 (lv_at hl 0 rfl) ?_
    refine lv_iconst (v := 0) hx hb dX4_add_79 (by decide) ?_
    refine gs_348 E hW r1369430 ⟨by omega, by omega⟩ dX4_add_80 (fun f1369431 H locs e1369432 n1369433 g1369434 hW => ?_)
    have hF := FM.tr hF g1369434 rfl
    refine lv_aload_n hx hb dX4_add_81 rfl (lv_at hl 1 rfl) ?_
    refine lv_dup hx hb dX4_add_82 rfl ?_
    refine fg_RX4_39 E hW rh0 dX4_add_83 (fun y1369435 m1369436 b1369437 => ?_)
    obtain rfl : y1369372 = y1369435 := (((fm_I g1369434 rh0 rfl).trans ((fm_I g1369427 rh0 rfl).trans ((fm_I g1369420 rh0 rfl).trans ((fm_I g1369413 rh0 rfl).trans ((fm_I g1369406 rh0 rfl).trans ((fm_I g1369399 rh0 rfl).trans ((fm_I g1369392 rh0 rfl).trans ((fm_I g1369385 rh0 rfl).trans m1369377))))))))).symm.trans m1369436
    refine lv_iconst (v := 1) hx hb dX4_add_86 (by decide) ?_
    refine q_iadd (Y := 1) hx hb dX4_add_87 rfl rfl (by omega) (fun x1369438 h1369439 => ?_)
    refine fp_RX4_39 E hW rh0 (by omega) dX4_add_88 (fun f1369440 H locs e1369441 n1369442 g1369443 hW => ?_)
    have hF := FM.tr hF g1369443 rfl
    refine lv_iload hx hb dX4_add_91 (lv_at hl 0 rfl) ?_
    exact e_I E hW rfl ⟨⟨_, rfl, (by first | omega | trivial)⟩, hF⟩ dX4_add_93
  · refine lv_iconst (v := (-1)) hx hb dX4_add_9 (by decide) ?_
    exact e_I E hW rfl ⟨⟨_, rfl, (by have hk : ((-1) : Int32).toInt = -1 := rfl; first | decide | omega)⟩, hF⟩ dX4_add_10
def ms_X4_copyFrom : List (Nat × Nat) := [(4, 0), (341, 0), (342, 0), (343, 0), (344, 0), (345, 0), (346, 0), (347, 0), (348, 0)]
def po_X4_copyFrom (kp : Nat → Nat) (L : List Nat) (f0 : Nat → va_E) (h0 : Nat) (u1 : Nat) : Option Value → (Nat → va_E) → Prop := fun v f => v = none ∧ FM kp L ms_X4_copyFrom f0 f
set_option maxHeartbeats 4000000 in
set_option maxRecDepth 100000 in
theorem c_X4_copyFrom (l : Launch) (G : va_G) (cI cJ cZ cD cR cT : ClassId) (kp : Nat → Nat) (L : List Nat) (f0 : Nat → va_E) (hTH : TH cI cJ cZ cD cR cT kp L f0) (sz : Nat) (h0 : Nat) (u1 : Nat) (rh0 : RK kp L h0 4) (ru1 : RK kp L u1 4) : Met l yX4_copyFrom (Cond.code yX4_copyFrom cX4_copyFrom 2 none :: wTab) ({ frames := 1, cells := 0, slots := 0, locals := 60 }) (va_Pc [.ref h0, .ref u1] (PreW G (tys6 cI cJ cZ cD cR cT) (va_pl L f0) sz)) (QT (po_X4_copyFrom kp L f0 h0 u1) G cI cJ cZ cD cR cT (va_A (va_pl L f0) sz) kp L) 0 0 (va_A (va_pl L f0) sz) := by
  refine metT (by decide) (Nat.le_of_ble_eq_true rfl) hTH ?_
  intro p e s m below meth c A ls E hW hl
  obtain ⟨hx, hb, -, hml, hown, hts, -, -, -⟩ := id E
  have hF : FM kp L ms_X4_copyFrom f0 f0 := FM.rf
  have hl : lv_has ls 2 [(0, .ref h0), (1, .ref u1)] := hl
  refine lv_aload_n hx hb dX4_copyFrom_0 rfl (lv_at hl 0 rfl) ?_
  refine lv_aload_n hx hb dX4_copyFrom_1 rfl (lv_at hl 1 rfl) ?_
  refine fg_RX4_39 E hW ru1 dX4_copyFrom_2 (fun y1369444 m1369445 b1369446 => ?_)
  refine fp_RX4_39 E hW rh0 (by omega) dX4_copyFrom_5 (fun f1369447 H locs e1369448 n1369449 g1369450 hW => ?_)
  have hF := FM.tr hF g1369450 rfl
  refine lv_aload_n hx hb dX4_copyFrom_8 rfl (lv_at hl 1 rfl) ?_
  refine fg_RX4_9 E hW ru1 dX4_copyFrom_9 (fun a1369451 m1369452 r1369453 => ?_)
  refine lv_iconst (v := 0) hx hb dX4_copyFrom_12 (by decide) ?_
  refine lv_aload_n hx hb dX4_copyFrom_13 rfl (lv_at hl 0 rfl) ?_
  refine fg_RX4_9 E hW rh0 dX4_copyFrom_14 (fun a1369454 m1369455 r1369456 => ?_)
  refine lv_iconst (v := 0) hx hb dX4_copyFrom_17 (by decide) ?_
  refine lv_bipush (v := 40) hx hb dX4_copyFrom_18 (by decide) ?_
  refine t_copy (N := 40) (n0 := 40) (n1 := 40) E hW tw_1293 ⟨tw_1004, tw_1003, tw_122⟩ hl.1 rfl r1369453 (by decide) rfl r1369456 (by decide) rfl rfl (by decide) rfl (by decide) (by decide) (by decide) (fun _ _ => trivial) ⟨Nat.le_of_ble_eq_true rfl, Nat.le_of_ble_eq_true rfl⟩ dX4_copyFrom_20 (fun f1369457 H locs n1369459 g1369460 hW => ?_)
  have hF := FM.tr hF g1369460 rfl
  refine lv_aload_n hx hb dX4_copyFrom_23 rfl (lv_at hl 1 rfl) ?_
  refine fg_RX4_15 E hW ru1 dX4_copyFrom_24 (fun a1369461 m1369462 r1369463 => ?_)
  refine lv_iconst (v := 0) hx hb dX4_copyFrom_27 (by decide) ?_
  refine lv_aload_n hx hb dX4_copyFrom_28 rfl (lv_at hl 0 rfl) ?_
  refine fg_RX4_15 E hW rh0 dX4_copyFrom_29 (fun a1369464 m1369465 r1369466 => ?_)
  refine lv_iconst (v := 0) hx hb dX4_copyFrom_32 (by decide) ?_
  refine lv_bipush (v := 40) hx hb dX4_copyFrom_33 (by decide) ?_
  refine t_copy (N := 40) (n0 := 40) (n1 := 40) E hW tw_1293 ⟨tw_1004, tw_1003, tw_122⟩ hl.1 rfl r1369463 (by decide) rfl r1369466 (by decide) rfl rfl (by decide) rfl (by decide) (by decide) (by decide) (fun _ _ => trivial) ⟨Nat.le_of_ble_eq_true rfl, Nat.le_of_ble_eq_true rfl⟩ dX4_copyFrom_35 (fun f1369467 H locs n1369469 g1369470 hW => ?_)
  have hF := FM.tr hF g1369470 rfl
  refine lv_aload_n hx hb dX4_copyFrom_38 rfl (lv_at hl 1 rfl) ?_
  refine fg_RX4_18 E hW ru1 dX4_copyFrom_39 (fun a1369471 m1369472 r1369473 => ?_)
  refine lv_iconst (v := 0) hx hb dX4_copyFrom_42 (by decide) ?_
  refine lv_aload_n hx hb dX4_copyFrom_43 rfl (lv_at hl 0 rfl) ?_
  refine fg_RX4_18 E hW rh0 dX4_copyFrom_44 (fun a1369474 m1369475 r1369476 => ?_)
  refine lv_iconst (v := 0) hx hb dX4_copyFrom_47 (by decide) ?_
  refine lv_bipush (v := 40) hx hb dX4_copyFrom_48 (by decide) ?_
  refine t_copy (N := 40) (n0 := 40) (n1 := 40) E hW tw_1293 ⟨tw_1004, tw_1003, tw_122⟩ hl.1 rfl r1369473 (by decide) rfl r1369476 (by decide) rfl rfl (by decide) rfl (by decide) (by decide) (by decide) (fun _ _ => trivial) ⟨Nat.le_of_ble_eq_true rfl, Nat.le_of_ble_eq_true rfl⟩ dX4_copyFrom_50 (fun f1369477 H locs n1369479 g1369480 hW => ?_)
  have hF := FM.tr hF g1369480 rfl
  refine lv_aload_n hx hb dX4_copyFrom_53 rfl (lv_at hl 1 rfl) ?_
  refine fg_RX4_21 E hW ru1 dX4_copyFrom_54 (fun a1369481 m1369482 r1369483 => ?_)
  refine lv_iconst (v := 0) hx hb dX4_copyFrom_57 (by decide) ?_
  refine lv_aload_n hx hb dX4_copyFrom_58 rfl (lv_at hl 0 rfl) ?_
  refine fg_RX4_21 E hW rh0 dX4_copyFrom_59 (fun a1369484 m1369485 r1369486 => ?_)
  refine lv_iconst (v := 0) hx hb dX4_copyFrom_62 (by decide) ?_
  refine lv_bipush (v := 40) hx hb dX4_copyFrom_63 (by decide) ?_
  refine t_copy (N := 40) (n0 := 40) (n1 := 40) E hW tw_1293 ⟨tw_1004, tw_1003, tw_122⟩ hl.1 rfl r1369483 (by decide) rfl r1369486 (by decide) rfl rfl (by decide) rfl (by decide) (by decide) (by decide) (fun h0 h1 => AB_cpy h0 h1) ⟨Nat.le_of_ble_eq_true rfl, Nat.le_of_ble_eq_true rfl⟩ dX4_copyFrom_65 (fun f1369487 H locs n1369489 g1369490 hW => ?_)
  have hF := FM.tr hF g1369490 rfl
  refine lv_aload_n hx hb dX4_copyFrom_68 rfl (lv_at hl 1 rfl) ?_
  refine fg_RX4_24 E hW ru1 dX4_copyFrom_69 (fun a1369491 m1369492 r1369493 => ?_)
  refine lv_iconst (v := 0) hx hb dX4_copyFrom_72 (by decide) ?_
  refine lv_aload_n hx hb dX4_copyFrom_73 rfl (lv_at hl 0 rfl) ?_
  refine fg_RX4_24 E hW rh0 dX4_copyFrom_74 (fun a1369494 m1369495 r1369496 => ?_)
  refine lv_iconst (v := 0) hx hb dX4_copyFrom_77 (by decide) ?_
  refine lv_bipush (v := 40) hx hb dX4_copyFrom_78 (by decide) ?_
  refine t_copy (N := 40) (n0 := 40) (n1 := 40) E hW tw_1293 ⟨tw_1004, tw_1003, tw_122⟩ hl.1 rfl r1369493 (by decide) rfl r1369496 (by decide) rfl rfl (by decide) rfl (by decide) (by decide) (by decide) (fun _ _ => trivial) ⟨Nat.le_of_ble_eq_true rfl, Nat.le_of_ble_eq_true rfl⟩ dX4_copyFrom_80 (fun f1369497 H locs n1369499 g1369500 hW => ?_)
  have hF := FM.tr hF g1369500 rfl
  refine lv_aload_n hx hb dX4_copyFrom_83 rfl (lv_at hl 1 rfl) ?_
  refine fg_RX4_27 E hW ru1 dX4_copyFrom_84 (fun a1369501 m1369502 r1369503 => ?_)
  refine lv_iconst (v := 0) hx hb dX4_copyFrom_87 (by decide) ?_
  refine lv_aload_n hx hb dX4_copyFrom_88 rfl (lv_at hl 0 rfl) ?_
  refine fg_RX4_27 E hW rh0 dX4_copyFrom_89 (fun a1369504 m1369505 r1369506 => ?_)
  refine lv_iconst (v := 0) hx hb dX4_copyFrom_92 (by decide) ?_
  refine lv_bipush (v := 40) hx hb dX4_copyFrom_93 (by decide) ?_
  refine t_copy (N := 40) (n0 := 40) (n1 := 40) E hW tw_1293 ⟨tw_1004, tw_1003, tw_122⟩ hl.1 rfl r1369503 (by decide) rfl r1369506 (by decide) rfl rfl (by decide) rfl (by decide) (by decide) (by decide) (fun _ _ => trivial) ⟨Nat.le_of_ble_eq_true rfl, Nat.le_of_ble_eq_true rfl⟩ dX4_copyFrom_95 (fun f1369507 H locs n1369509 g1369510 hW => ?_)
  have hF := FM.tr hF g1369510 rfl
  refine lv_aload_n hx hb dX4_copyFrom_98 rfl (lv_at hl 1 rfl) ?_
  refine fg_RX4_30 E hW ru1 dX4_copyFrom_99 (fun a1369511 m1369512 r1369513 => ?_)
  refine lv_iconst (v := 0) hx hb dX4_copyFrom_102 (by decide) ?_
  refine lv_aload_n hx hb dX4_copyFrom_103 rfl (lv_at hl 0 rfl) ?_
  refine fg_RX4_30 E hW rh0 dX4_copyFrom_104 (fun a1369514 m1369515 r1369516 => ?_)
  refine lv_iconst (v := 0) hx hb dX4_copyFrom_107 (by decide) ?_
  refine lv_bipush (v := 40) hx hb dX4_copyFrom_108 (by decide) ?_
  refine t_copy (N := 40) (n0 := 40) (n1 := 40) E hW tw_1293 ⟨tw_1004, tw_1003, tw_122⟩ hl.1 rfl r1369513 (by decide) rfl r1369516 (by decide) rfl rfl (by decide) rfl (by decide) (by decide) (by decide) (fun _ _ => trivial) ⟨Nat.le_of_ble_eq_true rfl, Nat.le_of_ble_eq_true rfl⟩ dX4_copyFrom_110 (fun f1369517 H locs n1369519 g1369520 hW => ?_)
  have hF := FM.tr hF g1369520 rfl
  refine lv_aload_n hx hb dX4_copyFrom_113 rfl (lv_at hl 1 rfl) ?_
  refine fg_RX4_33 E hW ru1 dX4_copyFrom_114 (fun a1369521 m1369522 r1369523 => ?_)
  refine lv_iconst (v := 0) hx hb dX4_copyFrom_117 (by decide) ?_
  refine lv_aload_n hx hb dX4_copyFrom_118 rfl (lv_at hl 0 rfl) ?_
  refine fg_RX4_33 E hW rh0 dX4_copyFrom_119 (fun a1369524 m1369525 r1369526 => ?_)
  refine lv_iconst (v := 0) hx hb dX4_copyFrom_122 (by decide) ?_
  refine lv_bipush (v := 40) hx hb dX4_copyFrom_123 (by decide) ?_
  refine t_copy (N := 40) (n0 := 40) (n1 := 40) E hW tw_1293 ⟨tw_1004, tw_1003, tw_122⟩ hl.1 rfl r1369523 (by decide) rfl r1369526 (by decide) rfl rfl (by decide) rfl (by decide) (by decide) (by decide) (fun _ _ => trivial) ⟨Nat.le_of_ble_eq_true rfl, Nat.le_of_ble_eq_true rfl⟩ dX4_copyFrom_125 (fun f1369527 H locs n1369529 g1369530 hW => ?_)
  have hF := FM.tr hF g1369530 rfl
  exact e_V E hW rfl ⟨rfl, hF⟩ dX4_copyFrom_128
def ms_X4_gain : List (Nat × Nat) := [(342, 0)]
def po_X4_gain (kp : Nat → Nat) (L : List Nat) (f0 : Nat → va_E) (h0 : Nat) (u1 : Int32) (u2 : Int32) : Option Value → (Nat → va_E) → Prop := fun v f => v = none ∧ FM kp L ms_X4_gain f0 f
set_option maxHeartbeats 4000000 in
set_option maxRecDepth 100000 in
theorem c_X4_gain (l : Launch) (G : va_G) (cI cJ cZ cD cR cT : ClassId) (kp : Nat → Nat) (L : List Nat) (f0 : Nat → va_E) (hTH : TH cI cJ cZ cD cR cT kp L f0) (sz : Nat) (h0 : Nat) (u1 : Int32) (u2 : Int32) (rh0 : RK kp L h0 4) (pu1 : (0 : Int) ≤ u1.toInt ∧ u1.toInt ≤ 39) (pu2 : (0 : Int) ≤ u2.toInt) : Met l yX4_gain (Cond.code yX4_gain cX4_gain 3 none :: wTab) ({ frames := 1, cells := 0, slots := 0, locals := 60 }) (va_Pc [.ref h0, .int u1, .int u2] (PreW G (tys6 cI cJ cZ cD cR cT) (va_pl L f0) sz)) (QT (po_X4_gain kp L f0 h0 u1 u2) G cI cJ cZ cD cR cT (va_A (va_pl L f0) sz) kp L) 0 0 (va_A (va_pl L f0) sz) := by
  refine metT (by decide) (Nat.le_of_ble_eq_true rfl) hTH ?_
  intro p e s m below meth c A ls E hW hl
  obtain ⟨hx, hb, -, hml, hown, hts, -, -, -⟩ := id E
  have hF : FM kp L ms_X4_gain f0 f0 := FM.rf
  have hl : lv_has ls 3 [(0, .ref h0), (1, .int u1), (2, .int u2)] := hl
  refine lv_aload_n hx hb dX4_gain_0 rfl (lv_at hl 0 rfl) ?_
  refine fg_RX4_15 E hW rh0 dX4_gain_1 (fun a1369531 m1369532 r1369533 => ?_)
  refine lv_iload_n hx hb dX4_gain_4 rfl (lv_at hl 1 rfl) ?_
  refine lv_aload_n hx hb dX4_gain_5 rfl (lv_at hl 0 rfl) ?_
  refine fg_RX4_15 E hW rh0 dX4_gain_6 (fun a1369534 m1369535 r1369536 => ?_)
  obtain rfl : a1369531 = a1369534 := (m1369532).symm.trans m1369535
  refine lv_iload_n hx hb dX4_gain_9 rfl (lv_at hl 1 rfl) ?_
  refine gl_342 E hW r1369533 ⟨by omega, by omega⟩ dX4_gain_10 (fun y1369537 m1369538 => ?_)
  refine lv_iload_n hx hb dX4_gain_11 rfl (lv_at hl 2 rfl) ?_
  refine u_iadd hx hb dX4_gain_12 (fun x1369540 => ?_)
  refine lv_ldc (v := 10000000) hx hb hown (hts _ tw_635) dX4_gain_13 ?_
  refine t_min (Y := 10000000) (own := RX4) E tw_636 ⟨tw_637, tw_115, tw_638⟩ hl.1 ⟨Nat.le_of_ble_eq_true rfl, Nat.le_of_ble_eq_true rfl⟩ ⟨Nat.le_of_ble_eq_true rfl, Nat.le_of_ble_eq_true rfl⟩ rfl rfl dX4_gain_15 (fun x1369541 h1369542 => ?_)
  refine gs_342 E hW r1369533 ⟨by omega, by omega⟩ dX4_gain_18 (fun f1369543 H locs e1369544 n1369545 g1369546 hW => ?_)
  have hF := FM.tr hF g1369546 rfl
  exact e_V E hW rfl ⟨rfl, hF⟩ dX4_gain_19
def ms_X4_has : List (Nat × Nat) := []
def po_X4_has (kp : Nat → Nat) (L : List Nat) (f0 : Nat → va_E) (h0 : Nat) (u1 : Int32) : Option Value → (Nat → va_E) → Prop := fun v f => (∃ r : Int32, v = some (.int r) ∧ ((r.toInt = 1 ∧ 0 ≤ u1.toInt ∧ u1.toInt ≤ 39) ∨ r.toInt = 0)) ∧ FM kp L ms_X4_has f0 f
set_option maxHeartbeats 4000000 in
set_option maxRecDepth 100000 in
theorem c_X4_has (l : Launch) (G : va_G) (cI cJ cZ cD cR cT : ClassId) (kp : Nat → Nat) (L : List Nat) (f0 : Nat → va_E) (hTH : TH cI cJ cZ cD cR cT kp L f0) (sz : Nat) (h0 : Nat) (u1 : Int32) (rh0 : RK kp L h0 4) : Met l yX4_has (Cond.code yX4_has cX4_has 2 (some .boolean) :: wTab) ({ frames := 1, cells := 0, slots := 0, locals := 40 }) (va_Pc [.ref h0, .int u1] (PreW G (tys6 cI cJ cZ cD cR cT) (va_pl L f0) sz)) (QT (po_X4_has kp L f0 h0 u1) G cI cJ cZ cD cR cT (va_A (va_pl L f0) sz) kp L) 0 0 (va_A (va_pl L f0) sz) := by
  refine metT (by decide) (Nat.le_of_ble_eq_true rfl) hTH ?_
  intro p e s m below meth c A ls E hW hl
  obtain ⟨hx, hb, -, hml, hown, hts, -, -, -⟩ := id E
  have hF : FM kp L ms_X4_has f0 f0 := FM.rf
  have hl : lv_has ls 2 [(0, .ref h0), (1, .int u1)] := hl
  refine lv_iload_n hx hb dX4_has_0 rfl (lv_at hl 1 rfl) ?_
  refine q_if_lt (tgt := 16) hx hb dX4_has_1 (by decide) rfl (fun c1369547 => ?_) (fun c1369547 => ?_)
  · refine lv_iconst (v := 0) hx hb dX4_has_16 (by decide) ?_
    exact e_Z E hW rfl (by decide) ⟨⟨_, rfl, (by have hk : (0 : Int32).toInt = 0 := rfl; first | decide | omega)⟩, hF⟩ dX4_has_17
  · refine lv_iload_n hx hb dX4_has_4 rfl (lv_at hl 1 rfl) ?_
    refine lv_aload_n hx hb dX4_has_5 rfl (lv_at hl 0 rfl) ?_
    refine fg_RX4_39 E hW rh0 dX4_has_6 (fun y1369548 m1369549 b1369550 => ?_)
    refine q_icmp_ge (tgt := 16) hx hb dX4_has_9 (by decide) rfl rfl (fun c1369551 => ?_) (fun c1369551 => ?_)
    · refine lv_iconst (v := 0) hx hb dX4_has_16 (by decide) ?_
      exact e_Z E hW rfl (by decide) ⟨⟨_, rfl, (by have hk : (0 : Int32).toInt = 0 := rfl; first | decide | omega)⟩, hF⟩ dX4_has_17
    · refine lv_iconst (v := 1) hx hb dX4_has_12 (by decide) ?_
      refine lv_goto (tgt := 17) hx hb dX4_has_13 (by decide) ?_
      exact e_Z E hW rfl (by decide) ⟨⟨_, rfl, (by have hk : (1 : Int32).toInt = 1 := rfl; first | decide | omega)⟩, hF⟩ dX4_has_17
def ms_X4_isAbout : List (Nat × Nat) := []
def po_X4_isAbout (kp : Nat → Nat) (L : List Nat) (f0 : Nat → va_E) (h0 : Nat) (u1 : Int32) : Option Value → (Nat → va_E) → Prop := fun v f => (∃ r : Int32, v = some (.int r) ∧ ((0 : Int) ≤ r.toInt ∧ r.toInt ≤ 1)) ∧ FM kp L ms_X4_isAbout f0 f
set_option maxHeartbeats 4000000 in
set_option maxRecDepth 100000 in
theorem c_X4_isAbout (l : Launch) (G : va_G) (cI cJ cZ cD cR cT : ClassId) (kp : Nat → Nat) (L : List Nat) (f0 : Nat → va_E) (hTH : TH cI cJ cZ cD cR cT kp L f0) (sz : Nat) (h0 : Nat) (u1 : Int32) (rh0 : RK kp L h0 4) (pu1 : (0 : Int) ≤ u1.toInt ∧ u1.toInt ≤ 39) : Met l yX4_isAbout (Cond.code yX4_isAbout cX4_isAbout 2 (some .boolean) :: wTab) ({ frames := 1, cells := 0, slots := 0, locals := 40 }) (va_Pc [.ref h0, .int u1] (PreW G (tys6 cI cJ cZ cD cR cT) (va_pl L f0) sz)) (QT (po_X4_isAbout kp L f0 h0 u1) G cI cJ cZ cD cR cT (va_A (va_pl L f0) sz) kp L) 0 0 (va_A (va_pl L f0) sz) := by
  refine metT (by decide) (Nat.le_of_ble_eq_true rfl) hTH ?_
  intro p e s m below meth c A ls E hW hl
  obtain ⟨hx, hb, -, hml, hown, hts, -, -, -⟩ := id E
  have hF : FM kp L ms_X4_isAbout f0 f0 := FM.rf
  have hl : lv_has ls 2 [(0, .ref h0), (1, .int u1)] := hl
  refine lv_aload_n hx hb dX4_isAbout_0 rfl (lv_at hl 0 rfl) ?_
  refine fg_RX4_27 E hW rh0 dX4_isAbout_1 (fun a1369552 m1369553 r1369554 => ?_)
  refine lv_iload_n hx hb dX4_isAbout_4 rfl (lv_at hl 1 rfl) ?_
  refine gl_346 E hW r1369554 ⟨by omega, by omega⟩ dX4_isAbout_5 (fun y1369555 m1369556 => ?_)
  have J1369567 : ∀ (y1369565 : Int32) (b1369566 : (0 : Int) ≤ y1369565.toInt ∧ y1369565.toInt ≤ 1) (H : Heap) (locs : List Loc) (ls : Array Slot), WS G cI cJ cZ cD cR cT A kp L f0 s H locs → FM kp L ms_X4_isAbout f0 f0 → lv_has ls 2 [(0, .ref h0), (1, .int u1)] → W p l e ({ frames := 1, cells := 0, slots := 0, locals := 40 }) s m ([.ref h0, .int u1] : List Value).toArray below meth c H locs 0 0 (MQ below (QT (po_X4_isAbout kp L f0 h0 u1) G cI cJ cZ cD cR cT A kp L) ([.ref h0, .int u1] : List Value).toArray s 0 0 A) (F0 m 24 ls [.int y1369565]) := by
    intro y1369565 b1369566 H locs ls hW hF hl
    exact e_Z E hW rfl (by omega) ⟨⟨_, rfl, (by first | omega | trivial)⟩, hF⟩ dX4_isAbout_24
  refine q_if_eq (tgt := 19) hx hb dX4_isAbout_6 (by decide) rfl (fun c1369568 => ?_) (fun c1369568 => ?_)
  · refine lv_iconst (v := 1) hx hb dX4_isAbout_19 (by decide) ?_
    refine lv_goto (tgt := 24) hx hb dX4_isAbout_20 (by decide) ?_
    exact J1369567 1 (by decide) _ _ _ hW hF (lv_sub hl [0, 1] rfl)
  · refine lv_aload_n hx hb dX4_isAbout_9 rfl (lv_at hl 0 rfl) ?_
    refine fg_RX4_27 E hW rh0 dX4_isAbout_10 (fun a1369569 m1369570 r1369571 => ?_)
    obtain rfl : a1369552 = a1369569 := (m1369553).symm.trans m1369570
    refine lv_iload_n hx hb dX4_isAbout_13 rfl (lv_at hl 1 rfl) ?_
    refine gl_346 E hW r1369554 ⟨by omega, by omega⟩ dX4_isAbout_14 (fun y1369572 m1369573 => ?_)
    obtain rfl : y1369555 = y1369572 := (m1369556).symm.trans m1369573
    refine lv_iconst (v := 1) hx hb dX4_isAbout_15 (by decide) ?_
    refine q_icmp_ne (Y := 1) (tgt := 23) hx hb dX4_isAbout_16 (by decide) rfl rfl (fun c1369575 => ?_) (fun c1369575 => ?_)
    · refine lv_iconst (v := 0) hx hb dX4_isAbout_23 (by decide) ?_
      exact J1369567 0 (by decide) _ _ _ hW hF (lv_sub hl [0, 1] rfl)
    · refine lv_iconst (v := 1) hx hb dX4_isAbout_19 (by decide) ?_
      refine lv_goto (tgt := 24) hx hb dX4_isAbout_20 (by decide) ?_
      exact J1369567 1 (by decide) _ _ _ hW hF (lv_sub hl [0, 1] rfl)
def ms_X4_keepsBan : List (Nat × Nat) := []
def po_X4_keepsBan (kp : Nat → Nat) (L : List Nat) (f0 : Nat → va_E) (h0 : Nat) (u1 : Int32) (u2 : Int32) (u3 : Int32) : Option Value → (Nat → va_E) → Prop := fun v f => (∃ r : Int32, v = some (.int r) ∧ ((0 : Int) ≤ r.toInt ∧ r.toInt ≤ 1)) ∧ FM kp L ms_X4_keepsBan f0 f
set_option maxHeartbeats 4000000 in
set_option maxRecDepth 100000 in
theorem c_X4_keepsBan (l : Launch) (G : va_G) (cI cJ cZ cD cR cT : ClassId) (kp : Nat → Nat) (L : List Nat) (f0 : Nat → va_E) (hTH : TH cI cJ cZ cD cR cT kp L f0) (sz : Nat) (h0 : Nat) (u1 : Int32) (u2 : Int32) (u3 : Int32) (rh0 : RK kp L h0 4) (pu1 : (0 : Int) ≤ u1.toInt ∧ u1.toInt ≤ 39) (pu2 : (0 : Int) ≤ u2.toInt ∧ u2.toInt ≤ 39) : Met l yX4_keepsBan (Cond.code yX4_keepsBan cX4_keepsBan 6 (some .boolean) :: wTab) ({ frames := 2, cells := 0, slots := 0, locals := 61 }) (va_Pc [.ref h0, .int u1, .int u2, .int u3] (PreW G (tys6 cI cJ cZ cD cR cT) (va_pl L f0) sz)) (QT (po_X4_keepsBan kp L f0 h0 u1 u2 u3) G cI cJ cZ cD cR cT (va_A (va_pl L f0) sz) kp L) 0 0 (va_A (va_pl L f0) sz) := by
  refine metT (by decide) (Nat.le_of_ble_eq_true rfl) hTH ?_
  intro p e s m below meth c A ls E hW hl
  obtain ⟨hx, hb, -, hml, hown, hts, -, -, -⟩ := id E
  have hF : FM kp L ms_X4_keepsBan f0 f0 := FM.rf
  have hl : lv_has ls 6 [(0, .ref h0), (1, .int u1), (2, .int u2), (3, .int u3)] := hl
  refine lv_aload_n hx hb dX4_keepsBan_0 rfl (lv_at hl 0 rfl) ?_
  refine fg_RX4_9 E hW rh0 dX4_keepsBan_1 (fun a1369576 m1369577 r1369578 => ?_)
  refine lv_iload_n hx hb dX4_keepsBan_4 rfl (lv_at hl 1 rfl) ?_
  refine gl_341 E hW r1369578 ⟨by omega, by omega⟩ dX4_keepsBan_5 (fun y1369579 m1369580 => ?_)
  refine lv_aload_n hx hb dX4_keepsBan_6 rfl (lv_at hl 0 rfl) ?_
  refine fg_RX4_9 E hW rh0 dX4_keepsBan_7 (fun a1369582 m1369583 r1369584 => ?_)
  obtain rfl : a1369576 = a1369582 := (m1369577).symm.trans m1369583
  refine lv_iload_n hx hb dX4_keepsBan_10 rfl (lv_at hl 2 rfl) ?_
  refine gl_341 E hW r1369578 ⟨by omega, by omega⟩ dX4_keepsBan_11 (fun y1369585 m1369586 => ?_)
  refine q_icmp_ne (tgt := 17) hx hb dX4_keepsBan_12 (by decide) rfl rfl (fun c1369588 => ?_) (fun c1369588 => ?_)
  · refine lv_iload_n hx hb dX4_keepsBan_17 rfl (lv_at hl 1 rfl) ?_
    refine lv_istore (lv' := [(4, .int u1), (0, .ref h0), (1, .int u1), (2, .int u2), (3, .int u3)]) hx hb dX4_keepsBan_18 hl (by decide) rfl (fun ls hl => ?_)
    refine lv_iconst (v := 0) hx hb dX4_keepsBan_20 (by decide) ?_
    refine lv_istore (lv' := [(5, .int 0), (4, .int u1), (0, .ref h0), (1, .int u1), (2, .int u2), (3, .int u3)]) hx hb dX4_keepsBan_21 hl (by decide) rfl (fun ls hl => ?_)
    have L1370265 : ∀ (n : Nat), ∀ (f1370259 : Nat → va_E) (y1370261 : Int32) (y1370263 : Int32) (m1370260 : oR (f1370259 h0) 1 = a1369576) (b1370262 : (0 : Int) ≤ y1370261.toInt ∧ y1370261.toInt ≤ 41) (b1370264 : (-1 : Int) ≤ y1370263.toInt ∧ y1370263.toInt ≤ 39) (hm : (42 : Int) - y1370261.toInt ≤ n) (H : Heap) (locs : List Loc) (ls : Array Slot), WS G cI cJ cZ cD cR cT A kp L f1370259 s H locs → FM kp L ms_X4_keepsBan f0 f1370259 → lv_has ls 6 [(5, .int y1370261), (4, .int y1370263), (0, .ref h0), (1, .int u1), (2, .int u2), (3, .int u3)] → W p l e ({ frames := 2, cells := 0, slots := 0, locals := 61 }) s m ([.ref h0, .int u1, .int u2, .int u3] : List Value).toArray below meth c H locs 0 0 (MQ below (QT (po_X4_keepsBan kp L f0 h0 u1 u2 u3) G cI cJ cZ cD cR cT A kp L) ([.ref h0, .int u1, .int u2, .int u3] : List Value).toArray s 0 0 A) (F0 m 23 ls []) := by
      intro n
      induction n with
      | zero =>
        intro f1370259 y1370261 y1370263 m1370260 b1370262 b1370264 hm H locs ls hW hF hl
        have hz := i32_b y1370261
        exfalso; omega
      | succ n ih =>
        intro f1370259 y1370261 y1370263 m1370260 b1370262 b1370264 hm H locs ls hW hF hl
        clear c1369588
        have ih23 := ih
        refine lv_iload hx hb dX4_keepsBan_23 (lv_at hl 0 rfl) ?_
        refine lv_bipush (v := 40) hx hb dX4_keepsBan_25 (by decide) ?_
        refine q_icmp_gt (Y := 40) (tgt := 67) hx hb dX4_keepsBan_27 (by decide) rfl rfl (fun c1370266 => ?_) (fun c1370266 => ?_)
        · refine lv_iconst (v := 0) hx hb dX4_keepsBan_67 (by decide) ?_
          exact e_Z E hW rfl (by decide) ⟨⟨_, rfl, (by have hk : (0 : Int32).toInt = 0 := rfl; first | decide | omega)⟩, hF⟩ dX4_keepsBan_68
        · refine lv_aload_n hx hb dX4_keepsBan_30 rfl (lv_at hl 2 rfl) ?_
          refine lv_iload hx hb dX4_keepsBan_31 (lv_at hl 1 rfl) ?_
          refine t_callV (As := [.int y1370263]) (rest := []) E hW (c_X4_has l G cI cJ cZ cD cR cT kp L f1370259 hW.2.2.2 _ h0 y1370263 rh0) rh0 (by decide) rfl wk_X4_has tw_1188 rfl ⟨Nat.le_of_ble_eq_true rfl, Nat.le_of_ble_eq_true rfl⟩ ⟨rfl, rfl⟩ hl.1 rfl (Nat.le_of_ble_eq_true rfl) dX4_keepsBan_33 ⟨Nat.le_of_ble_eq_true rfl, Nat.le_of_ble_eq_true rfl⟩ (fun v1370267 f1370268 H locs q1370269 hW => ?_)
          obtain ⟨⟨x1370271, rfl, p1370272⟩, g1370270⟩ := q1370269
          have hF := FM.tr hF g1370270 rfl
          refine q_if_eq (tgt := 67) hx hb dX4_keepsBan_36 (by decide) rfl (fun c1370273 => ?_) (fun c1370273 => ?_)
          · clear p1370272
            refine lv_iconst (v := 0) hx hb dX4_keepsBan_67 (by decide) ?_
            exact e_Z E hW rfl (by decide) ⟨⟨_, rfl, (by have hk : (0 : Int32).toInt = 0 := rfl; first | decide | omega)⟩, hF⟩ dX4_keepsBan_68
          · have q1370274 : 0 ≤ y1370263.toInt ∧ y1370263.toInt ≤ 39 := by omega
            clear p1370272
            refine lv_aload_n hx hb dX4_keepsBan_39 rfl (lv_at hl 2 rfl) ?_
            refine fg_RX4_18 E hW rh0 dX4_keepsBan_40 (fun a1370275 m1370276 r1370277 => ?_)
            refine lv_iload hx hb dX4_keepsBan_43 (lv_at hl 1 rfl) ?_
            refine gl_343 E hW r1370277 ⟨by omega, by omega⟩ dX4_keepsBan_45 (fun y1370278 m1370279 => ?_)
            refine lv_iload_n hx hb dX4_keepsBan_46 rfl (lv_at hl 5 rfl) ?_
            refine q_icmp_lt (tgt := 52) hx hb dX4_keepsBan_47 (by decide) rfl rfl (fun c1370281 => ?_) (fun c1370281 => ?_)
            · have hb1370282 : y1370278.toInt ≤ 2147483646 := by have := i32_b u3; omega
              have hb1370283 : -2147483647 ≤ u3.toInt := by have := i32_b y1370278; omega
              refine lv_aload_n hx hb dX4_keepsBan_52 rfl (lv_at hl 2 rfl) ?_
              refine fg_RX4_21 E hW rh0 dX4_keepsBan_53 (fun a1370284 m1370285 r1370286 => ?_)
              refine lv_iload hx hb dX4_keepsBan_56 (lv_at hl 1 rfl) ?_
              refine gl_344 E hW r1370286 ⟨by omega, by omega⟩ dX4_keepsBan_58 (fun y1370287 m1370288 b1370289 => ?_)
              refine lv_istore (lv' := [(4, .int y1370287), (5, .int y1370261), (0, .ref h0), (1, .int u1), (2, .int u2), (3, .int u3)]) hx hb dX4_keepsBan_59 hl (by decide) rfl (fun ls hl => ?_)
              refine q_iinc hx hb dX4_keepsBan_61 hl (k := 1) rfl rfl rfl (by omega) (by decide) (fun i1370290 ls h1370291 hl => ?_)
              have hl : lv_has ls 6 [(5, .int i1370290), (4, .int y1370287), (0, .ref h0), (1, .int u1), (2, .int u2), (3, .int u3)] := hl
              refine lv_goto (tgt := 23) hx hb dX4_keepsBan_64 (by decide) ?_
              exact ih23 f1370268 i1370290 y1370287 ((fm_R g1370270 rh0 rfl).trans m1370260) (by omega) (by omega) (by omega) _ _ _ hW hF (lv_sub hl [0, 1, 2, 3, 4, 5] rfl)
            · refine lv_iconst (v := 1) hx hb dX4_keepsBan_50 (by decide) ?_
              exact e_Z E hW rfl (by decide) ⟨⟨_, rfl, (by have hk : (1 : Int32).toInt = 1 := rfl; first | decide | omega)⟩, hF⟩ dX4_keepsBan_51
    have hk1370292 : (0 : Int32).toInt = 0 := rfl
    exact L1370265 42 f0 0 u1 m1369583 (by decide) (by omega) (by omega) _ _ _ hW hF (lv_sub hl [0, 1, 2, 3, 4, 5] rfl)
  · refine lv_iconst (v := 0) hx hb dX4_keepsBan_15 (by decide) ?_
    exact e_Z E hW rfl (by decide) ⟨⟨_, rfl, (by have hk : (0 : Int32).toInt = 0 := rfl; first | decide | omega)⟩, hF⟩ dX4_keepsBan_16
def ms_X4_kinOf : List (Nat × Nat) := []
def po_X4_kinOf (kp : Nat → Nat) (L : List Nat) (f0 : Nat → va_E) (h0 : Nat) (u1 : Int32) : Option Value → (Nat → va_E) → Prop := fun v f => (∃ r : Int32, v = some (.int r) ∧ (True)) ∧ FM kp L ms_X4_kinOf f0 f
set_option maxHeartbeats 4000000 in
set_option maxRecDepth 100000 in
theorem c_X4_kinOf (l : Launch) (G : va_G) (cI cJ cZ cD cR cT : ClassId) (kp : Nat → Nat) (L : List Nat) (f0 : Nat → va_E) (hTH : TH cI cJ cZ cD cR cT kp L f0) (sz : Nat) (h0 : Nat) (u1 : Int32) (rh0 : RK kp L h0 4) (pu1 : (0 : Int) ≤ u1.toInt ∧ u1.toInt ≤ 39) : Met l yX4_kinOf (Cond.code yX4_kinOf cX4_kinOf 4 (some .int) :: wTab) ({ frames := 1, cells := 0, slots := 0, locals := 40 }) (va_Pc [.ref h0, .int u1] (PreW G (tys6 cI cJ cZ cD cR cT) (va_pl L f0) sz)) (QT (po_X4_kinOf kp L f0 h0 u1) G cI cJ cZ cD cR cT (va_A (va_pl L f0) sz) kp L) 0 0 (va_A (va_pl L f0) sz) := by
  refine metT (by decide) (Nat.le_of_ble_eq_true rfl) hTH ?_
  intro p e s m below meth c A ls E hW hl
  obtain ⟨hx, hb, -, hml, hown, hts, -, -, -⟩ := id E
  have hF : FM kp L ms_X4_kinOf f0 f0 := FM.rf
  have hl : lv_has ls 4 [(0, .ref h0), (1, .int u1)] := hl
  refine lv_iconst (v := 0) hx hb dX4_kinOf_0 (by decide) ?_
  refine lv_istore_n (lv' := [(2, .int 0), (0, .ref h0), (1, .int u1)]) hx hb dX4_kinOf_1 rfl hl (by decide) rfl (fun ls hl => ?_)
  refine lv_iconst (v := 0) hx hb dX4_kinOf_2 (by decide) ?_
  refine lv_istore_n (lv' := [(3, .int 0), (2, .int 0), (0, .ref h0), (1, .int u1)]) hx hb dX4_kinOf_3 rfl hl (by decide) rfl (fun ls hl => ?_)
  have L1373943 : ∀ (n : Nat), ∀ (y1373940 : Int32) (y1373942 : Int32) (b1373941 : (0 : Int) ≤ y1373940.toInt ∧ y1373940.toInt ≤ 40) (hm : (41 : Int) - y1373940.toInt ≤ n) (H : Heap) (locs : List Loc) (ls : Array Slot), WS G cI cJ cZ cD cR cT A kp L f0 s H locs → FM kp L ms_X4_kinOf f0 f0 → lv_has ls 4 [(3, .int y1373940), (2, .int y1373942), (0, .ref h0), (1, .int u1)] → W p l e ({ frames := 1, cells := 0, slots := 0, locals := 40 }) s m ([.ref h0, .int u1] : List Value).toArray below meth c H locs 0 0 (MQ below (QT (po_X4_kinOf kp L f0 h0 u1) G cI cJ cZ cD cR cT A kp L) ([.ref h0, .int u1] : List Value).toArray s 0 0 A) (F0 m 4 ls []) := by
    intro n
    induction n with
    | zero =>
      intro y1373940 y1373942 b1373941 hm H locs ls hW hF hl
      have hz := i32_b y1373940
      exfalso; omega
    | succ n ih =>
      intro y1373940 y1373942 b1373941 hm H locs ls hW hF hl
      have ih4 := ih
      refine lv_iload_n hx hb dX4_kinOf_4 rfl (lv_at hl 0 rfl) ?_
      refine lv_aload_n hx hb dX4_kinOf_5 rfl (lv_at hl 2 rfl) ?_
      refine fg_RX4_39 E hW rh0 dX4_kinOf_6 (fun y1373944 m1373945 b1373946 => ?_)
      refine q_icmp_ge (tgt := 50) hx hb dX4_kinOf_9 (by decide) rfl rfl (fun c1373994 => ?_) (fun c1373994 => ?_)
      · refine lv_iload_n hx hb dX4_kinOf_50 rfl (lv_at hl 1 rfl) ?_
        exact e_I E hW rfl ⟨⟨_, rfl, trivial⟩, hF⟩ dX4_kinOf_51
      · refine lv_iload_n hx hb dX4_kinOf_12 rfl (lv_at hl 0 rfl) ?_
        refine lv_iload_n hx hb dX4_kinOf_13 rfl (lv_at hl 3 rfl) ?_
        have J1374017 : ∀ (y1374016 : Int32) (H : Heap) (locs : List Loc) (ls : Array Slot), WS G cI cJ cZ cD cR cT A kp L f0 s H locs → FM kp L ms_X4_kinOf f0 f0 → lv_has ls 4 [(3, .int y1373940), (2, .int y1374016), (0, .ref h0), (1, .int u1)] → W p l e ({ frames := 1, cells := 0, slots := 0, locals := 40 }) s m ([.ref h0, .int u1] : List Value).toArray below meth c H locs 0 0 (MQ below (QT (po_X4_kinOf kp L f0 h0 u1) G cI cJ cZ cD cR cT A kp L) ([.ref h0, .int u1] : List Value).toArray s 0 0 A) (F0 m 44 ls []) := by
          intro y1374016 H locs ls hW hF hl
          refine q_iinc hx hb dX4_kinOf_44 hl (k := 0) rfl rfl rfl (by omega) (by decide) (fun i1374018 ls h1374019 hl => ?_)
          have hl : lv_has ls 4 [(3, .int i1374018), (2, .int y1374016), (0, .ref h0), (1, .int u1)] := hl
          refine lv_goto (tgt := 4) hx hb dX4_kinOf_47 (by decide) ?_
          exact ih4 i1374018 y1374016 (by omega) (by omega) _ _ _ hW hF (lv_sub hl [0, 1, 2, 3] rfl)
        refine q_icmp_eq (tgt := 44) hx hb dX4_kinOf_14 (by decide) rfl rfl (fun c1374020 => ?_) (fun c1374020 => ?_)
        · exact J1374017 y1373942  _ _ _ hW hF (lv_sub hl [0, 1, 2, 3] rfl)
        · refine lv_aload_n hx hb dX4_kinOf_17 rfl (lv_at hl 2 rfl) ?_
          refine fg_RX4_9 E hW rh0 dX4_kinOf_18 (fun a1374021 m1374022 r1374023 => ?_)
          refine lv_iload_n hx hb dX4_kinOf_21 rfl (lv_at hl 0 rfl) ?_
          refine gl_341 E hW r1374023 ⟨by omega, by omega⟩ dX4_kinOf_22 (fun y1374024 m1374025 => ?_)
          refine lv_aload_n hx hb dX4_kinOf_23 rfl (lv_at hl 2 rfl) ?_
          refine fg_RX4_9 E hW rh0 dX4_kinOf_24 (fun a1374027 m1374028 r1374029 => ?_)
          obtain rfl : a1374021 = a1374027 := (m1374022).symm.trans m1374028
          refine lv_iload_n hx hb dX4_kinOf_27 rfl (lv_at hl 3 rfl) ?_
          refine gl_341 E hW r1374023 ⟨by omega, by omega⟩ dX4_kinOf_28 (fun y1374030 m1374031 => ?_)
          refine q_icmp_ne (tgt := 44) hx hb dX4_kinOf_29 (by decide) rfl rfl (fun c1374033 => ?_) (fun c1374033 => ?_)
          · exact J1374017 y1373942  _ _ _ hW hF (lv_sub hl [0, 1, 2, 3] rfl)
          · refine lv_aload_n hx hb dX4_kinOf_32 rfl (lv_at hl 2 rfl) ?_
            refine fg_RX4_27 E hW rh0 dX4_kinOf_33 (fun a1374034 m1374035 r1374036 => ?_)
            refine lv_iload_n hx hb dX4_kinOf_36 rfl (lv_at hl 0 rfl) ?_
            refine gl_346 E hW r1374036 ⟨by omega, by omega⟩ dX4_kinOf_37 (fun y1374037 m1374038 => ?_)
            refine q_if_ne (tgt := 44) hx hb dX4_kinOf_38 (by decide) rfl (fun c1374040 => ?_) (fun c1374040 => ?_)
            · exact J1374017 y1373942  _ _ _ hW hF (lv_sub hl [0, 1, 2, 3] rfl)
            · refine u_iinc hx hb dX4_kinOf_41 hl (k := 1) rfl (by decide) (fun i1374041 ls hl => ?_)
              have hl : lv_has ls 4 [(2, .int i1374041), (3, .int y1373940), (0, .ref h0), (1, .int u1)] := hl
              exact J1374017 i1374041  _ _ _ hW hF (lv_sub hl [1, 0, 2, 3] rfl)
  have hk1374042 : (0 : Int32).toInt = 0 := rfl
  have hk1374043 : (0 : Int32).toInt = 0 := rfl
  exact L1373943 41 0 0 (by decide) (by omega) _ _ _ hW hF (lv_sub hl [0, 1, 2, 3] rfl)
def ms_X4_maySell : List (Nat × Nat) := []
def po_X4_maySell (kp : Nat → Nat) (L : List Nat) (f0 : Nat → va_E) (h0 : Nat) (u1 : Int32) (u2 : Int32) (u3 : Int32) (u4 : Int32) : Option Value → (Nat → va_E) → Prop := fun v f => (∃ r : Int32, v = some (.int r) ∧ ((0 : Int) ≤ r.toInt ∧ r.toInt ≤ 1)) ∧ FM kp L ms_X4_maySell f0 f
set_option maxHeartbeats 4000000 in
set_option maxRecDepth 100000 in
theorem c_X4_maySell (l : Launch) (G : va_G) (cI cJ cZ cD cR cT : ClassId) (kp : Nat → Nat) (L : List Nat) (f0 : Nat → va_E) (hTH : TH cI cJ cZ cD cR cT kp L f0) (sz : Nat) (h0 : Nat) (u1 : Int32) (u2 : Int32) (u3 : Int32) (u4 : Int32) (rh0 : RK kp L h0 4) (pu1 : (0 : Int) ≤ u1.toInt ∧ u1.toInt ≤ 39) (pu2 : (0 : Int) ≤ u2.toInt ∧ u2.toInt ≤ 39) (pu3 : (1 : Int) ≤ u3.toInt ∧ u3.toInt ≤ 10000) : Met l yX4_maySell (Cond.code yX4_maySell cX4_maySell 5 (some .boolean) :: wTab) ({ frames := 3, cells := 0, slots := 0, locals := 86 }) (va_Pc [.ref h0, .int u1, .int u2, .int u3, .int u4] (PreW G (tys6 cI cJ cZ cD cR cT) (va_pl L f0) sz)) (QT (po_X4_maySell kp L f0 h0 u1 u2 u3 u4) G cI cJ cZ cD cR cT (va_A (va_pl L f0) sz) kp L) 0 0 (va_A (va_pl L f0) sz) := by
  refine metT (by decide) (Nat.le_of_ble_eq_true rfl) hTH ?_
  intro p e s m below meth c A ls E hW hl
  obtain ⟨hx, hb, -, hml, hown, hts, -, -, -⟩ := id E
  have hF : FM kp L ms_X4_maySell f0 f0 := FM.rf
  have hl : lv_has ls 5 [(0, .ref h0), (1, .int u1), (2, .int u2), (3, .int u3), (4, .int u4)] := hl
  refine lv_iload_n hx hb dX4_maySell_0 rfl (lv_at hl 1 rfl) ?_
  refine lv_iload_n hx hb dX4_maySell_1 rfl (lv_at hl 2 rfl) ?_
  have J1374068 : ∀ (f1374065 : Nat → va_E) (y1374066 : Int32) (b1374067 : (0 : Int) ≤ y1374066.toInt ∧ y1374066.toInt ≤ 1) (H : Heap) (locs : List Loc) (ls : Array Slot), WS G cI cJ cZ cD cR cT A kp L f1374065 s H locs → FM kp L ms_X4_maySell f0 f1374065 → lv_has ls 5 [(0, .ref h0), (1, .int u1), (2, .int u2), (3, .int u3), (4, .int u4)] → W p l e ({ frames := 3, cells := 0, slots := 0, locals := 86 }) s m ([.ref h0, .int u1, .int u2, .int u3, .int u4] : List Value).toArray below meth c H locs 0 0 (MQ below (QT (po_X4_maySell kp L f0 h0 u1 u2 u3 u4) G cI cJ cZ cD cR cT A kp L) ([.ref h0, .int u1, .int u2, .int u3, .int u4] : List Value).toArray s 0 0 A) (F0 m 39 ls [.int y1374066]) := by
    intro f1374065 y1374066 b1374067 H locs ls hW hF hl
    exact e_Z E hW rfl (by omega) ⟨⟨_, rfl, (by first | omega | trivial)⟩, hF⟩ dX4_maySell_39
  refine q_icmp_eq (tgt := 38) hx hb dX4_maySell_2 (by decide) rfl rfl (fun c1374069 => ?_) (fun c1374069 => ?_)
  · refine lv_iconst (v := 0) hx hb dX4_maySell_38 (by decide) ?_
    exact J1374068 f0 0 (by decide) _ _ _ hW hF (lv_sub hl [0, 1, 2, 3, 4] rfl)
  · refine lv_aload_n hx hb dX4_maySell_5 rfl (lv_at hl 0 rfl) ?_
    refine lv_iload_n hx hb dX4_maySell_6 rfl (lv_at hl 1 rfl) ?_
    refine t_callV (As := [.int u1]) (rest := []) E hW (c_X4_isAbout l G cI cJ cZ cD cR cT kp L f0 hW.2.2.2 _ h0 u1 rh0 (by omega)) rh0 (by decide) rfl wk_X4_isAbout tw_1205 rfl ⟨Nat.le_of_ble_eq_true rfl, Nat.le_of_ble_eq_true rfl⟩ ⟨rfl, rfl⟩ hl.1 rfl (Nat.le_of_ble_eq_true rfl) dX4_maySell_7 ⟨Nat.le_of_ble_eq_true rfl, Nat.le_of_ble_eq_true rfl⟩ (fun v1374070 f1374071 H locs q1374072 hW => ?_)
    obtain ⟨⟨x1374074, rfl, p1374075⟩, g1374073⟩ := q1374072
    have hF := FM.tr hF g1374073 rfl
    refine q_if_eq (tgt := 38) hx hb dX4_maySell_10 (by decide) rfl (fun c1374076 => ?_) (fun c1374076 => ?_)
    · refine lv_iconst (v := 0) hx hb dX4_maySell_38 (by decide) ?_
      exact J1374068 f1374071 0 (by decide) _ _ _ hW hF (lv_sub hl [0, 1, 2, 3, 4] rfl)
    · refine lv_aload_n hx hb dX4_maySell_13 rfl (lv_at hl 0 rfl) ?_
      refine fg_RX4_15 E hW rh0 dX4_maySell_14 (fun a1374077 m1374078 r1374079 => ?_)
      refine lv_iload_n hx hb dX4_maySell_17 rfl (lv_at hl 1 rfl) ?_
      refine gl_342 E hW r1374079 ⟨by omega, by omega⟩ dX4_maySell_18 (fun y1374080 m1374081 => ?_)
      refine lv_iload_n hx hb dX4_maySell_19 rfl (lv_at hl 3 rfl) ?_
      refine q_icmp_lt (tgt := 38) hx hb dX4_maySell_20 (by decide) rfl rfl (fun c1374083 => ?_) (fun c1374083 => ?_)
      · refine lv_iconst (v := 0) hx hb dX4_maySell_38 (by decide) ?_
        exact J1374068 f1374071 0 (by decide) _ _ _ hW hF (lv_sub hl [0, 1, 2, 3, 4] rfl)
      · refine lv_aload_n hx hb dX4_maySell_23 rfl (lv_at hl 0 rfl) ?_
        refine lv_iload_n hx hb dX4_maySell_24 rfl (lv_at hl 1 rfl) ?_
        refine lv_iload_n hx hb dX4_maySell_25 rfl (lv_at hl 2 rfl) ?_
        refine lv_iload hx hb dX4_maySell_26 (lv_at hl 4 rfl) ?_
        refine t_callV (As := [.int u1, .int u2, .int u4]) (rest := []) E hW (c_X4_keepsBan l G cI cJ cZ cD cR cT kp L f1374071 hW.2.2.2 _ h0 u1 u2 u4 rh0 (by omega) (by omega)) rh0 (by decide) rfl wk_X4_keepsBan tw_1206 rfl ⟨Nat.le_of_ble_eq_true rfl, Nat.le_of_ble_eq_true rfl⟩ ⟨rfl, rfl⟩ hl.1 rfl (Nat.le_of_ble_eq_true rfl) dX4_maySell_28 ⟨Nat.le_of_ble_eq_true rfl, Nat.le_of_ble_eq_true rfl⟩ (fun v1374084 f1374085 H locs q1374086 hW => ?_)
        obtain ⟨⟨x1374088, rfl, p1374089⟩, g1374087⟩ := q1374086
        have hF := FM.tr hF g1374087 rfl
        refine q_if_ne (tgt := 38) hx hb dX4_maySell_31 (by decide) rfl (fun c1374090 => ?_) (fun c1374090 => ?_)
        · refine lv_iconst (v := 0) hx hb dX4_maySell_38 (by decide) ?_
          exact J1374068 f1374085 0 (by decide) _ _ _ hW hF (lv_sub hl [0, 1, 2, 3, 4] rfl)
        · refine lv_iconst (v := 1) hx hb dX4_maySell_34 (by decide) ?_
          refine lv_goto (tgt := 39) hx hb dX4_maySell_35 (by decide) ?_
          exact J1374068 f1374085 1 (by decide) _ _ _ hW hF (lv_sub hl [0, 1, 2, 3, 4] rfl)
def ms_X1_addEstate : List (Nat × Nat) := [(1, 8), (169, 0), (170, 0), (171, 0)]
def po_X1_addEstate (kp : Nat → Nat) (L : List Nat) (f0 : Nat → va_E) (h0 : Nat) (u1 : Int32) (u2 : Int32) : Option Value → (Nat → va_E) → Prop := fun v f => (∃ r : Int32, v = some (.int r) ∧ ((-1 : Int) ≤ r.toInt ∧ r.toInt ≤ 7)) ∧ FM kp L ms_X1_addEstate f0 f
set_option maxHeartbeats 4000000 in
set_option maxRecDepth 100000 in
theorem c_X1_addEstate (l : Launch) (G : va_G) (cI cJ cZ cD cR cT : ClassId) (kp : Nat → Nat) (L : List Nat) (f0 : Nat → va_E) (hTH : TH cI cJ cZ cD cR cT kp L f0) (sz : Nat) (h0 : Nat) (u1 : Int32) (u2 : Int32) (rh0 : RK kp L h0 1) (pu1 : (0 : Int) ≤ u1.toInt ∧ u1.toInt ≤ 10000000) (pu2 : (0 : Int) ≤ u2.toInt ∧ u2.toInt ≤ 1000000) : Met l yX1_addEstate (Cond.code yX1_addEstate cX1_addEstate 4 (some .int) :: wTab) ({ frames := 1, cells := 0, slots := 0, locals := 40 }) (va_Pc [.ref h0, .int u1, .int u2] (PreW G (tys6 cI cJ cZ cD cR cT) (va_pl L f0) sz)) (QT (po_X1_addEstate kp L f0 h0 u1 u2) G cI cJ cZ cD cR cT (va_A (va_pl L f0) sz) kp L) 0 0 (va_A (va_pl L f0) sz) := by
  refine metT (by decide) (Nat.le_of_ble_eq_true rfl) hTH ?_
  intro p e s m below meth c A ls E hW hl
  obtain ⟨hx, hb, -, hml, hown, hts, -, -, -⟩ := id E
  have hF : FM kp L ms_X1_addEstate f0 f0 := FM.rf
  have hl : lv_has ls 4 [(0, .ref h0), (1, .int u1), (2, .int u2)] := hl
  refine lv_aload_n hx hb dX1_addEstate_0 rfl (lv_at hl 0 rfl) ?_
  refine fg_RX1_49 E hW rh0 dX1_addEstate_1 (fun y1374091 m1374092 b1374093 => ?_)
  refine lv_bipush (v := 8) hx hb dX1_addEstate_4 (by decide) ?_
  refine q_icmp_lt (Y := 8) (tgt := 11) hx hb dX1_addEstate_6 (by decide) rfl rfl (fun c1374094 => ?_) (fun c1374094 => ?_)
  · refine lv_aload_n hx hb dX1_addEstate_11 rfl (lv_at hl 0 rfl) ?_
    refine fg_RX1_49 E hW rh0 dX1_addEstate_12 (fun y1374095 m1374096 b1374097 => ?_)
    obtain rfl : y1374091 = y1374095 := (m1374092).symm.trans m1374096
    refine lv_istore_n (lv' := [(3, .int y1374091), (0, .ref h0), (1, .int u1), (2, .int u2)]) hx hb dX1_addEstate_15 rfl hl (by decide) rfl (fun ls hl => ?_)
    refine lv_aload_n hx hb dX1_addEstate_16 rfl (lv_at hl 1 rfl) ?_
    refine fg_RX1_33 E hW rh0 dX1_addEstate_17 (fun a1374098 m1374099 r1374100 => ?_)
    refine lv_iload_n hx hb dX1_addEstate_20 rfl (lv_at hl 0 rfl) ?_
    refine lv_iload_n hx hb dX1_addEstate_21 rfl (lv_at hl 2 rfl) ?_
    refine gs_169 E hW r1374100 ⟨by omega, by omega⟩ dX1_addEstate_22 (fun f1374101 H locs e1374102 n1374103 g1374104 hW => ?_)
    have hF := FM.tr hF g1374104 rfl
    refine lv_aload_n hx hb dX1_addEstate_23 rfl (lv_at hl 1 rfl) ?_
    refine fg_RX1_36 E hW rh0 dX1_addEstate_24 (fun a1374105 m1374106 r1374107 => ?_)
    refine lv_iload_n hx hb dX1_addEstate_27 rfl (lv_at hl 0 rfl) ?_
    refine lv_iload_n hx hb dX1_addEstate_28 rfl (lv_at hl 3 rfl) ?_
    refine gs_170 E hW r1374107 ⟨by omega, by omega⟩ dX1_addEstate_29 (fun f1374108 H locs e1374109 n1374110 g1374111 hW => ?_)
    have hF := FM.tr hF g1374111 rfl
    refine lv_aload_n hx hb dX1_addEstate_30 rfl (lv_at hl 1 rfl) ?_
    refine fg_RX1_39 E hW rh0 dX1_addEstate_31 (fun a1374112 m1374113 r1374114 => ?_)
    refine lv_iload_n hx hb dX1_addEstate_34 rfl (lv_at hl 0 rfl) ?_
    refine lv_iconst (v := (-1)) hx hb dX1_addEstate_35 (by decide) ?_
    refine gs_171 E hW r1374114 ⟨by omega, by omega⟩ dX1_addEstate_36 (fun f1374115 H locs e1374116 n1374117 g1374118 hW => ?_)
    have hF := FM.tr hF g1374118 rfl
    refine lv_aload_n hx hb dX1_addEstate_37 rfl (lv_at hl 1 rfl) ?_
    refine lv_dup hx hb dX1_addEstate_38 rfl ?_
    refine fg_RX1_49 E hW rh0 dX1_addEstate_39 (fun y1374119 m1374120 b1374121 => ?_)
    obtain rfl : y1374091 = y1374119 := (((fm_I g1374118 rh0 rfl).trans ((fm_I g1374111 rh0 rfl).trans ((fm_I g1374104 rh0 rfl).trans m1374096)))).symm.trans m1374120
    refine lv_iconst (v := 1) hx hb dX1_addEstate_42 (by decide) ?_
    refine q_iadd (Y := 1) hx hb dX1_addEstate_43 rfl rfl (by omega) (fun x1374122 h1374123 => ?_)
    refine fp_RX1_49 E hW rh0 (by omega) dX1_addEstate_44 (fun f1374124 H locs e1374125 n1374126 g1374127 hW => ?_)
    have hF := FM.tr hF g1374127 rfl
    refine lv_iload_n hx hb dX1_addEstate_47 rfl (lv_at hl 0 rfl) ?_
    exact e_I E hW rfl ⟨⟨_, rfl, (by first | omega | trivial)⟩, hF⟩ dX1_addEstate_48
  · refine lv_iconst (v := (-1)) hx hb dX1_addEstate_9 (by decide) ?_
    exact e_I E hW rfl ⟨⟨_, rfl, (by have hk : ((-1) : Int32).toInt = -1 := rfl; first | decide | omega)⟩, hF⟩ dX1_addEstate_10
def ms_X1_addField : List (Nat × Nat) := [(1, 0), (161, 0), (162, 0), (163, 0), (164, 0), (165, 0), (166, 0), (167, 0)]
def po_X1_addField (kp : Nat → Nat) (L : List Nat) (f0 : Nat → va_E) (h0 : Nat) (u1 : Int32) (u2 : Int32) (u3 : Int32) : Option Value → (Nat → va_E) → Prop := fun v f => (∃ r : Int32, v = some (.int r) ∧ ((0 ≤ r.toInt ∨ 40 ≤ (oI (f0 h0) 0).toInt) ∧ -1 ≤ r.toInt ∧ r.toInt ≤ 39)) ∧ FM kp L ms_X1_addField f0 f
set_option maxHeartbeats 4000000 in
set_option maxRecDepth 100000 in
theorem c_X1_addField (l : Launch) (G : va_G) (cI cJ cZ cD cR cT : ClassId) (kp : Nat → Nat) (L : List Nat) (f0 : Nat → va_E) (hTH : TH cI cJ cZ cD cR cT kp L f0) (sz : Nat) (h0 : Nat) (u1 : Int32) (u2 : Int32) (u3 : Int32) (rh0 : RK kp L h0 1) (pu1 : (0 : Int) ≤ u1.toInt ∧ u1.toInt ≤ 7) (pu2 : (1 : Int) ≤ u2.toInt ∧ u2.toInt ≤ 1000) (pu3 : (0 : Int) ≤ u3.toInt ∧ u3.toInt ≤ 100000) : Met l yX1_addField (Cond.code yX1_addField cX1_addField 5 (some .int) :: wTab) ({ frames := 1, cells := 0, slots := 0, locals := 40 }) (va_Pc [.ref h0, .int u1, .int u2, .int u3] (PreW G (tys6 cI cJ cZ cD cR cT) (va_pl L f0) sz)) (QT (po_X1_addField kp L f0 h0 u1 u2 u3) G cI cJ cZ cD cR cT (va_A (va_pl L f0) sz) kp L) 0 0 (va_A (va_pl L f0) sz) := by
  refine metT (by decide) (Nat.le_of_ble_eq_true rfl) hTH ?_
  intro p e s m below meth c A ls E hW hl
  obtain ⟨hx, hb, -, hml, hown, hts, -, -, -⟩ := id E
  have hF : FM kp L ms_X1_addField f0 f0 := FM.rf
  have hl : lv_has ls 5 [(0, .ref h0), (1, .int u1), (2, .int u2), (3, .int u3)] := hl
  refine lv_aload_n hx hb dX1_addField_0 rfl (lv_at hl 0 rfl) ?_
  refine fg_RX1_46 E hW rh0 dX1_addField_1 (fun y1374128 m1374129 b1374130 => ?_)
  refine lv_bipush (v := 40) hx hb dX1_addField_4 (by decide) ?_
  refine q_icmp_lt (Y := 40) (tgt := 11) hx hb dX1_addField_6 (by decide) rfl rfl (fun c1374131 => ?_) (fun c1374131 => ?_)
  · refine lv_aload_n hx hb dX1_addField_11 rfl (lv_at hl 0 rfl) ?_
    refine fg_RX1_46 E hW rh0 dX1_addField_12 (fun y1374132 m1374133 b1374134 => ?_)
    obtain rfl : y1374128 = y1374132 := (m1374129).symm.trans m1374133
    refine lv_istore (lv' := [(4, .int y1374128), (0, .ref h0), (1, .int u1), (2, .int u2), (3, .int u3)]) hx hb dX1_addField_15 hl (by decide) rfl (fun ls hl => ?_)
    refine lv_aload_n hx hb dX1_addField_17 rfl (lv_at hl 1 rfl) ?_
    refine fg_RX1_9 E hW rh0 dX1_addField_18 (fun a1374135 m1374136 r1374137 => ?_)
    refine lv_iload hx hb dX1_addField_21 (lv_at hl 0 rfl) ?_
    refine lv_iload_n hx hb dX1_addField_23 rfl (lv_at hl 2 rfl) ?_
    refine gs_161 E hW r1374137 ⟨by omega, by omega⟩ (by omega) dX1_addField_24 (fun f1374138 H locs e1374139 n1374140 g1374141 hW => ?_)
    have hF := FM.tr hF g1374141 rfl
    refine lv_aload_n hx hb dX1_addField_25 rfl (lv_at hl 1 rfl) ?_
    refine fg_RX1_15 E hW rh0 dX1_addField_26 (fun a1374142 m1374143 r1374144 => ?_)
    refine lv_iload hx hb dX1_addField_29 (lv_at hl 0 rfl) ?_
    refine lv_iload_n hx hb dX1_addField_31 rfl (lv_at hl 3 rfl) ?_
    refine gs_162 E hW r1374144 ⟨by omega, by omega⟩ dX1_addField_32 (fun f1374145 H locs e1374146 n1374147 g1374148 hW => ?_)
    have hF := FM.tr hF g1374148 rfl
    refine lv_aload_n hx hb dX1_addField_33 rfl (lv_at hl 1 rfl) ?_
    refine fg_RX1_18 E hW rh0 dX1_addField_34 (fun a1374149 m1374150 r1374151 => ?_)
    refine lv_iload hx hb dX1_addField_37 (lv_at hl 0 rfl) ?_
    refine lv_iload_n hx hb dX1_addField_39 rfl (lv_at hl 4 rfl) ?_
    refine gs_163 E hW r1374151 ⟨by omega, by omega⟩ dX1_addField_40 (fun f1374152 H locs e1374153 n1374154 g1374155 hW => ?_)
    have hF := FM.tr hF g1374155 rfl
    refine lv_aload_n hx hb dX1_addField_41 rfl (lv_at hl 1 rfl) ?_
    refine fg_RX1_21 E hW rh0 dX1_addField_42 (fun a1374156 m1374157 r1374158 => ?_)
    refine lv_iload hx hb dX1_addField_45 (lv_at hl 0 rfl) ?_
    refine lv_iconst (v := (-1)) hx hb dX1_addField_47 (by decide) ?_
    refine gs_164 E hW r1374158 ⟨by omega, by omega⟩ (by decide) dX1_addField_48 (fun f1374159 H locs e1374160 n1374161 g1374162 hW => ?_)
    have hF := FM.tr hF g1374162 rfl
    refine lv_aload_n hx hb dX1_addField_49 rfl (lv_at hl 1 rfl) ?_
    refine fg_RX1_24 E hW rh0 dX1_addField_50 (fun a1374163 m1374164 r1374165 => ?_)
    refine lv_iload hx hb dX1_addField_53 (lv_at hl 0 rfl) ?_
    refine lv_iconst (v := 0) hx hb dX1_addField_55 (by decide) ?_
    refine gs_165 E hW r1374165 ⟨by omega, by omega⟩ dX1_addField_56 (fun f1374166 H locs e1374167 n1374168 g1374169 hW => ?_)
    have hF := FM.tr hF g1374169 rfl
    refine lv_aload_n hx hb dX1_addField_57 rfl (lv_at hl 1 rfl) ?_
    refine fg_RX1_27 E hW rh0 dX1_addField_58 (fun a1374170 m1374171 r1374172 => ?_)
    refine lv_iload hx hb dX1_addField_61 (lv_at hl 0 rfl) ?_
    refine lv_iconst (v := 0) hx hb dX1_addField_63 (by decide) ?_
    refine gs_166 E hW r1374172 ⟨by omega, by omega⟩ dX1_addField_64 (fun f1374173 H locs e1374174 n1374175 g1374176 hW => ?_)
    have hF := FM.tr hF g1374176 rfl
    refine lv_aload_n hx hb dX1_addField_65 rfl (lv_at hl 1 rfl) ?_
    refine fg_RX1_30 E hW rh0 dX1_addField_66 (fun a1374177 m1374178 r1374179 => ?_)
    refine lv_iload hx hb dX1_addField_69 (lv_at hl 0 rfl) ?_
    refine lv_iconst (v := 0) hx hb dX1_addField_71 (by decide) ?_
    refine gs_167 E hW r1374179 ⟨by omega, by omega⟩ dX1_addField_72 (fun f1374180 H locs e1374181 n1374182 g1374183 hW => ?_)
    have hF := FM.tr hF g1374183 rfl
    refine lv_aload_n hx hb dX1_addField_73 rfl (lv_at hl 1 rfl) ?_
    refine lv_dup hx hb dX1_addField_74 rfl ?_
    refine fg_RX1_46 E hW rh0 dX1_addField_75 (fun y1374184 m1374185 b1374186 => ?_)
    obtain rfl : y1374128 = y1374184 := (((fm_I g1374183 rh0 rfl).trans ((fm_I g1374176 rh0 rfl).trans ((fm_I g1374169 rh0 rfl).trans ((fm_I g1374162 rh0 rfl).trans ((fm_I g1374155 rh0 rfl).trans ((fm_I g1374148 rh0 rfl).trans ((fm_I g1374141 rh0 rfl).trans m1374133)))))))).symm.trans m1374185
    refine lv_iconst (v := 1) hx hb dX1_addField_78 (by decide) ?_
    refine q_iadd (Y := 1) hx hb dX1_addField_79 rfl rfl (by omega) (fun x1374187 h1374188 => ?_)
    refine fp_RX1_46 E hW rh0 (by omega) dX1_addField_80 (fun f1374189 H locs e1374190 n1374191 g1374192 hW => ?_)
    have hF := FM.tr hF g1374192 rfl
    refine lv_iload hx hb dX1_addField_83 (lv_at hl 0 rfl) ?_
    exact e_I E hW rfl ⟨⟨_, rfl, (by rw [m1374129]; first | omega | trivial)⟩, hF⟩ dX1_addField_85
  · refine lv_iconst (v := (-1)) hx hb dX1_addField_9 (by decide) ?_
    exact e_I E hW rfl ⟨⟨_, rfl, (by have hk : ((-1) : Int32).toInt = -1 := rfl; rw [m1374129]; first | decide | omega)⟩, hF⟩ dX1_addField_10
def ms_X1_copyFrom : List (Nat × Nat) := [(1, 0), (1, 8), (1, 12), (1, 13), (1, 14), (161, 0), (162, 0), (163, 0), (164, 0), (165, 0), (166, 0), (167, 0), (169, 0), (170, 0), (171, 0)]
def po_X1_copyFrom (kp : Nat → Nat) (L : List Nat) (f0 : Nat → va_E) (h0 : Nat) (u1 : Nat) : Option Value → (Nat → va_E) → Prop := fun v f => v = none ∧ FM kp L ms_X1_copyFrom f0 f
set_option maxHeartbeats 4000000 in
set_option maxRecDepth 100000 in
theorem c_X1_copyFrom (l : Launch) (G : va_G) (cI cJ cZ cD cR cT : ClassId) (kp : Nat → Nat) (L : List Nat) (f0 : Nat → va_E) (hTH : TH cI cJ cZ cD cR cT kp L f0) (sz : Nat) (h0 : Nat) (u1 : Nat) (rh0 : RK kp L h0 1) (ru1 : RK kp L u1 1) : Met l yX1_copyFrom (Cond.code yX1_copyFrom cX1_copyFrom 2 none :: wTab) ({ frames := 1, cells := 0, slots := 0, locals := 60 }) (va_Pc [.ref h0, .ref u1] (PreW G (tys6 cI cJ cZ cD cR cT) (va_pl L f0) sz)) (QT (po_X1_copyFrom kp L f0 h0 u1) G cI cJ cZ cD cR cT (va_A (va_pl L f0) sz) kp L) 0 0 (va_A (va_pl L f0) sz) := by
  refine metT (by decide) (Nat.le_of_ble_eq_true rfl) hTH ?_
  intro p e s m below meth c A ls E hW hl
  obtain ⟨hx, hb, -, hml, hown, hts, -, -, -⟩ := id E
  have hF : FM kp L ms_X1_copyFrom f0 f0 := FM.rf
  have hl : lv_has ls 2 [(0, .ref h0), (1, .ref u1)] := hl
  refine lv_aload_n hx hb dX1_copyFrom_0 rfl (lv_at hl 0 rfl) ?_
  refine lv_aload_n hx hb dX1_copyFrom_1 rfl (lv_at hl 1 rfl) ?_
  refine fg_RX1_46 E hW ru1 dX1_copyFrom_2 (fun y1374193 m1374194 b1374195 => ?_)
  refine fp_RX1_46 E hW rh0 (by omega) dX1_copyFrom_5 (fun f1374196 H locs e1374197 n1374198 g1374199 hW => ?_)
  have hF := FM.tr hF g1374199 rfl
  refine lv_aload_n hx hb dX1_copyFrom_8 rfl (lv_at hl 1 rfl) ?_
  refine fg_RX1_9 E hW ru1 dX1_copyFrom_9 (fun a1374200 m1374201 r1374202 => ?_)
  refine lv_iconst (v := 0) hx hb dX1_copyFrom_12 (by decide) ?_
  refine lv_aload_n hx hb dX1_copyFrom_13 rfl (lv_at hl 0 rfl) ?_
  refine fg_RX1_9 E hW rh0 dX1_copyFrom_14 (fun a1374203 m1374204 r1374205 => ?_)
  refine lv_iconst (v := 0) hx hb dX1_copyFrom_17 (by decide) ?_
  refine lv_bipush (v := 40) hx hb dX1_copyFrom_18 (by decide) ?_
  refine t_copy (N := 40) (n0 := 40) (n1 := 40) E hW tw_1298 ⟨tw_1004, tw_1003, tw_122⟩ hl.1 rfl r1374202 (by decide) rfl r1374205 (by decide) rfl rfl (by decide) rfl (by decide) (by decide) (by decide) (fun h0 h1 => AB_cpy h0 h1) ⟨Nat.le_of_ble_eq_true rfl, Nat.le_of_ble_eq_true rfl⟩ dX1_copyFrom_20 (fun f1374206 H locs n1374208 g1374209 hW => ?_)
  have hF := FM.tr hF g1374209 rfl
  refine lv_aload_n hx hb dX1_copyFrom_23 rfl (lv_at hl 1 rfl) ?_
  refine fg_RX1_15 E hW ru1 dX1_copyFrom_24 (fun a1374210 m1374211 r1374212 => ?_)
  refine lv_iconst (v := 0) hx hb dX1_copyFrom_27 (by decide) ?_
  refine lv_aload_n hx hb dX1_copyFrom_28 rfl (lv_at hl 0 rfl) ?_
  refine fg_RX1_15 E hW rh0 dX1_copyFrom_29 (fun a1374213 m1374214 r1374215 => ?_)
  refine lv_iconst (v := 0) hx hb dX1_copyFrom_32 (by decide) ?_
  refine lv_bipush (v := 40) hx hb dX1_copyFrom_33 (by decide) ?_
  refine t_copy (N := 40) (n0 := 40) (n1 := 40) E hW tw_1298 ⟨tw_1004, tw_1003, tw_122⟩ hl.1 rfl r1374212 (by decide) rfl r1374215 (by decide) rfl rfl (by decide) rfl (by decide) (by decide) (by decide) (fun _ _ => trivial) ⟨Nat.le_of_ble_eq_true rfl, Nat.le_of_ble_eq_true rfl⟩ dX1_copyFrom_35 (fun f1374216 H locs n1374218 g1374219 hW => ?_)
  have hF := FM.tr hF g1374219 rfl
  refine lv_aload_n hx hb dX1_copyFrom_38 rfl (lv_at hl 1 rfl) ?_
  refine fg_RX1_18 E hW ru1 dX1_copyFrom_39 (fun a1374220 m1374221 r1374222 => ?_)
  refine lv_iconst (v := 0) hx hb dX1_copyFrom_42 (by decide) ?_
  refine lv_aload_n hx hb dX1_copyFrom_43 rfl (lv_at hl 0 rfl) ?_
  refine fg_RX1_18 E hW rh0 dX1_copyFrom_44 (fun a1374223 m1374224 r1374225 => ?_)
  refine lv_iconst (v := 0) hx hb dX1_copyFrom_47 (by decide) ?_
  refine lv_bipush (v := 40) hx hb dX1_copyFrom_48 (by decide) ?_
  refine t_copy (N := 40) (n0 := 40) (n1 := 40) E hW tw_1298 ⟨tw_1004, tw_1003, tw_122⟩ hl.1 rfl r1374222 (by decide) rfl r1374225 (by decide) rfl rfl (by decide) rfl (by decide) (by decide) (by decide) (fun _ _ => trivial) ⟨Nat.le_of_ble_eq_true rfl, Nat.le_of_ble_eq_true rfl⟩ dX1_copyFrom_50 (fun f1374226 H locs n1374228 g1374229 hW => ?_)
  have hF := FM.tr hF g1374229 rfl
  refine lv_aload_n hx hb dX1_copyFrom_53 rfl (lv_at hl 1 rfl) ?_
  refine fg_RX1_21 E hW ru1 dX1_copyFrom_54 (fun a1374230 m1374231 r1374232 => ?_)
  refine lv_iconst (v := 0) hx hb dX1_copyFrom_57 (by decide) ?_
  refine lv_aload_n hx hb dX1_copyFrom_58 rfl (lv_at hl 0 rfl) ?_
  refine fg_RX1_21 E hW rh0 dX1_copyFrom_59 (fun a1374233 m1374234 r1374235 => ?_)
  refine lv_iconst (v := 0) hx hb dX1_copyFrom_62 (by decide) ?_
  refine lv_bipush (v := 40) hx hb dX1_copyFrom_63 (by decide) ?_
  refine t_copy (N := 40) (n0 := 40) (n1 := 40) E hW tw_1298 ⟨tw_1004, tw_1003, tw_122⟩ hl.1 rfl r1374232 (by decide) rfl r1374235 (by decide) rfl rfl (by decide) rfl (by decide) (by decide) (by decide) (fun h0 h1 => AB_cpy h0 h1) ⟨Nat.le_of_ble_eq_true rfl, Nat.le_of_ble_eq_true rfl⟩ dX1_copyFrom_65 (fun f1374236 H locs n1374238 g1374239 hW => ?_)
  have hF := FM.tr hF g1374239 rfl
  refine lv_aload_n hx hb dX1_copyFrom_68 rfl (lv_at hl 1 rfl) ?_
  refine fg_RX1_24 E hW ru1 dX1_copyFrom_69 (fun a1374240 m1374241 r1374242 => ?_)
  refine lv_iconst (v := 0) hx hb dX1_copyFrom_72 (by decide) ?_
  refine lv_aload_n hx hb dX1_copyFrom_73 rfl (lv_at hl 0 rfl) ?_
  refine fg_RX1_24 E hW rh0 dX1_copyFrom_74 (fun a1374243 m1374244 r1374245 => ?_)
  refine lv_iconst (v := 0) hx hb dX1_copyFrom_77 (by decide) ?_
  refine lv_bipush (v := 40) hx hb dX1_copyFrom_78 (by decide) ?_
  refine t_copy (N := 40) (n0 := 40) (n1 := 40) E hW tw_1298 ⟨tw_1004, tw_1003, tw_122⟩ hl.1 rfl r1374242 (by decide) rfl r1374245 (by decide) rfl rfl (by decide) rfl (by decide) (by decide) (by decide) (fun _ _ => trivial) ⟨Nat.le_of_ble_eq_true rfl, Nat.le_of_ble_eq_true rfl⟩ dX1_copyFrom_80 (fun f1374246 H locs n1374248 g1374249 hW => ?_)
  have hF := FM.tr hF g1374249 rfl
  refine lv_aload_n hx hb dX1_copyFrom_83 rfl (lv_at hl 1 rfl) ?_
  refine fg_RX1_27 E hW ru1 dX1_copyFrom_84 (fun a1374250 m1374251 r1374252 => ?_)
  refine lv_iconst (v := 0) hx hb dX1_copyFrom_87 (by decide) ?_
  refine lv_aload_n hx hb dX1_copyFrom_88 rfl (lv_at hl 0 rfl) ?_
  refine fg_RX1_27 E hW rh0 dX1_copyFrom_89 (fun a1374253 m1374254 r1374255 => ?_)
  refine lv_iconst (v := 0) hx hb dX1_copyFrom_92 (by decide) ?_
  refine lv_bipush (v := 40) hx hb dX1_copyFrom_93 (by decide) ?_
  refine t_copy (N := 40) (n0 := 40) (n1 := 40) E hW tw_1298 ⟨tw_1004, tw_1003, tw_122⟩ hl.1 rfl r1374252 (by decide) rfl r1374255 (by decide) rfl rfl (by decide) rfl (by decide) (by decide) (by decide) (fun _ _ => trivial) ⟨Nat.le_of_ble_eq_true rfl, Nat.le_of_ble_eq_true rfl⟩ dX1_copyFrom_95 (fun f1374256 H locs n1374258 g1374259 hW => ?_)
  have hF := FM.tr hF g1374259 rfl
  refine lv_aload_n hx hb dX1_copyFrom_98 rfl (lv_at hl 1 rfl) ?_
  refine fg_RX1_30 E hW ru1 dX1_copyFrom_99 (fun a1374260 m1374261 r1374262 => ?_)
  refine lv_iconst (v := 0) hx hb dX1_copyFrom_102 (by decide) ?_
  refine lv_aload_n hx hb dX1_copyFrom_103 rfl (lv_at hl 0 rfl) ?_
  refine fg_RX1_30 E hW rh0 dX1_copyFrom_104 (fun a1374263 m1374264 r1374265 => ?_)
  refine lv_iconst (v := 0) hx hb dX1_copyFrom_107 (by decide) ?_
  refine lv_bipush (v := 40) hx hb dX1_copyFrom_108 (by decide) ?_
  refine t_copy (N := 40) (n0 := 40) (n1 := 40) E hW tw_1298 ⟨tw_1004, tw_1003, tw_122⟩ hl.1 rfl r1374262 (by decide) rfl r1374265 (by decide) rfl rfl (by decide) rfl (by decide) (by decide) (by decide) (fun _ _ => trivial) ⟨Nat.le_of_ble_eq_true rfl, Nat.le_of_ble_eq_true rfl⟩ dX1_copyFrom_110 (fun f1374266 H locs n1374268 g1374269 hW => ?_)
  have hF := FM.tr hF g1374269 rfl
  refine lv_aload_n hx hb dX1_copyFrom_113 rfl (lv_at hl 0 rfl) ?_
  refine lv_aload_n hx hb dX1_copyFrom_114 rfl (lv_at hl 1 rfl) ?_
  refine fg_RX1_49 E hW ru1 dX1_copyFrom_115 (fun y1374270 m1374271 b1374272 => ?_)
  refine fp_RX1_49 E hW rh0 (by omega) dX1_copyFrom_118 (fun f1374273 H locs e1374274 n1374275 g1374276 hW => ?_)
  have hF := FM.tr hF g1374276 rfl
  refine lv_aload_n hx hb dX1_copyFrom_121 rfl (lv_at hl 1 rfl) ?_
  refine fg_RX1_33 E hW ru1 dX1_copyFrom_122 (fun a1374277 m1374278 r1374279 => ?_)
  refine lv_iconst (v := 0) hx hb dX1_copyFrom_125 (by decide) ?_
  refine lv_aload_n hx hb dX1_copyFrom_126 rfl (lv_at hl 0 rfl) ?_
  refine fg_RX1_33 E hW rh0 dX1_copyFrom_127 (fun a1374280 m1374281 r1374282 => ?_)
  refine lv_iconst (v := 0) hx hb dX1_copyFrom_130 (by decide) ?_
  refine lv_bipush (v := 8) hx hb dX1_copyFrom_131 (by decide) ?_
  refine t_copy (N := 8) (n0 := 8) (n1 := 8) E hW tw_1298 ⟨tw_1004, tw_1003, tw_122⟩ hl.1 rfl r1374279 (by decide) rfl r1374282 (by decide) rfl rfl (by decide) rfl (by decide) (by decide) (by decide) (fun _ _ => trivial) ⟨Nat.le_of_ble_eq_true rfl, Nat.le_of_ble_eq_true rfl⟩ dX1_copyFrom_133 (fun f1374283 H locs n1374285 g1374286 hW => ?_)
  have hF := FM.tr hF g1374286 rfl
  refine lv_aload_n hx hb dX1_copyFrom_136 rfl (lv_at hl 1 rfl) ?_
  refine fg_RX1_36 E hW ru1 dX1_copyFrom_137 (fun a1374287 m1374288 r1374289 => ?_)
  refine lv_iconst (v := 0) hx hb dX1_copyFrom_140 (by decide) ?_
  refine lv_aload_n hx hb dX1_copyFrom_141 rfl (lv_at hl 0 rfl) ?_
  refine fg_RX1_36 E hW rh0 dX1_copyFrom_142 (fun a1374290 m1374291 r1374292 => ?_)
  refine lv_iconst (v := 0) hx hb dX1_copyFrom_145 (by decide) ?_
  refine lv_bipush (v := 8) hx hb dX1_copyFrom_146 (by decide) ?_
  refine t_copy (N := 8) (n0 := 8) (n1 := 8) E hW tw_1298 ⟨tw_1004, tw_1003, tw_122⟩ hl.1 rfl r1374289 (by decide) rfl r1374292 (by decide) rfl rfl (by decide) rfl (by decide) (by decide) (by decide) (fun _ _ => trivial) ⟨Nat.le_of_ble_eq_true rfl, Nat.le_of_ble_eq_true rfl⟩ dX1_copyFrom_148 (fun f1374293 H locs n1374295 g1374296 hW => ?_)
  have hF := FM.tr hF g1374296 rfl
  refine lv_aload_n hx hb dX1_copyFrom_151 rfl (lv_at hl 1 rfl) ?_
  refine fg_RX1_39 E hW ru1 dX1_copyFrom_152 (fun a1374297 m1374298 r1374299 => ?_)
  refine lv_iconst (v := 0) hx hb dX1_copyFrom_155 (by decide) ?_
  refine lv_aload_n hx hb dX1_copyFrom_156 rfl (lv_at hl 0 rfl) ?_
  refine fg_RX1_39 E hW rh0 dX1_copyFrom_157 (fun a1374300 m1374301 r1374302 => ?_)
  refine lv_iconst (v := 0) hx hb dX1_copyFrom_160 (by decide) ?_
  refine lv_bipush (v := 8) hx hb dX1_copyFrom_161 (by decide) ?_
  refine t_copy (N := 8) (n0 := 8) (n1 := 8) E hW tw_1298 ⟨tw_1004, tw_1003, tw_122⟩ hl.1 rfl r1374299 (by decide) rfl r1374302 (by decide) rfl rfl (by decide) rfl (by decide) (by decide) (by decide) (fun _ _ => trivial) ⟨Nat.le_of_ble_eq_true rfl, Nat.le_of_ble_eq_true rfl⟩ dX1_copyFrom_163 (fun f1374303 H locs n1374305 g1374306 hW => ?_)
  have hF := FM.tr hF g1374306 rfl
  refine lv_aload_n hx hb dX1_copyFrom_166 rfl (lv_at hl 0 rfl) ?_
  refine lv_aload_n hx hb dX1_copyFrom_167 rfl (lv_at hl 1 rfl) ?_
  refine fg_RX1_42 E hW ru1 dX1_copyFrom_168 (fun y1374307 m1374308 => ?_)
  refine fp_RX1_42 E hW rh0 dX1_copyFrom_171 (fun f1374310 H locs e1374311 n1374312 g1374313 hW => ?_)
  have hF := FM.tr hF g1374313 rfl
  refine lv_aload_n hx hb dX1_copyFrom_174 rfl (lv_at hl 0 rfl) ?_
  refine lv_aload_n hx hb dX1_copyFrom_175 rfl (lv_at hl 1 rfl) ?_
  refine fg_RX1_62 E hW ru1 dX1_copyFrom_176 (fun y1374314 m1374315 => ?_)
  refine fp_RX1_62 E hW rh0 dX1_copyFrom_179 (fun f1374316 H locs e1374317 n1374318 g1374319 hW => ?_)
  have hF := FM.tr hF g1374319 rfl
  refine lv_aload_n hx hb dX1_copyFrom_182 rfl (lv_at hl 0 rfl) ?_
  refine lv_aload_n hx hb dX1_copyFrom_183 rfl (lv_at hl 1 rfl) ?_
  refine fg_RX1_69 E hW ru1 dX1_copyFrom_184 (fun y1374320 m1374321 => ?_)
  refine fp_RX1_69 E hW rh0 dX1_copyFrom_187 (fun f1374322 H locs e1374323 n1374324 g1374325 hW => ?_)
  have hF := FM.tr hF g1374325 rfl
  exact e_V E hW rfl ⟨rfl, hF⟩ dX1_copyFrom_190
def ms_X1_sumOfRents : List (Nat × Nat) := []
def po_X1_sumOfRents (kp : Nat → Nat) (L : List Nat) (f0 : Nat → va_E) (h0 : Nat) : Option Value → (Nat → va_E) → Prop := fun v f => (∃ r : Int64, v = some (.long r) ∧ (True)) ∧ FM kp L ms_X1_sumOfRents f0 f
set_option maxHeartbeats 4000000 in
set_option maxRecDepth 100000 in
theorem c_X1_sumOfRents (l : Launch) (G : va_G) (cI cJ cZ cD cR cT : ClassId) (kp : Nat → Nat) (L : List Nat) (f0 : Nat → va_E) (hTH : TH cI cJ cZ cD cR cT kp L f0) (sz : Nat) (h0 : Nat) (rh0 : RK kp L h0 1) : Met l yX1_sumOfRents (Cond.code yX1_sumOfRents cX1_sumOfRents 4 (some .long) :: wTab) ({ frames := 1, cells := 0, slots := 0, locals := 40 }) (va_Pc [.ref h0] (PreW G (tys6 cI cJ cZ cD cR cT) (va_pl L f0) sz)) (QT (po_X1_sumOfRents kp L f0 h0) G cI cJ cZ cD cR cT (va_A (va_pl L f0) sz) kp L) 0 0 (va_A (va_pl L f0) sz) := by
  refine metT (by decide) (Nat.le_of_ble_eq_true rfl) hTH ?_
  intro p e s m below meth c A ls E hW hl
  obtain ⟨hx, hb, -, hml, hown, hts, -, -, -⟩ := id E
  have hF : FM kp L ms_X1_sumOfRents f0 f0 := FM.rf
  have hl : lv_has ls 4 [(0, .ref h0)] := hl
  refine lv_lconst (v := 0) hx hb dX1_sumOfRents_0 (by decide) ?_
  refine lv_lstore_n (lv' := [(1, .long 0), (0, .ref h0)]) hx hb dX1_sumOfRents_1 rfl hl (by decide) rfl (fun ls hl => ?_)
  refine lv_iconst (v := 0) hx hb dX1_sumOfRents_2 (by decide) ?_
  refine lv_istore_n (lv' := [(3, .int 0), (1, .long 0), (0, .ref h0)]) hx hb dX1_sumOfRents_3 rfl hl (by decide) rfl (fun ls hl => ?_)
  have L1374696 : ∀ (n : Nat), ∀ (y1374693 : Int32) (y1374695 : Int64) (b1374694 : (0 : Int) ≤ y1374693.toInt ∧ y1374693.toInt ≤ 40) (hm : (41 : Int) - y1374693.toInt ≤ n) (H : Heap) (locs : List Loc) (ls : Array Slot), WS G cI cJ cZ cD cR cT A kp L f0 s H locs → FM kp L ms_X1_sumOfRents f0 f0 → lv_has ls 4 [(3, .int y1374693), (1, .long y1374695), (0, .ref h0)] → W p l e ({ frames := 1, cells := 0, slots := 0, locals := 40 }) s m ([.ref h0] : List Value).toArray below meth c H locs 0 0 (MQ below (QT (po_X1_sumOfRents kp L f0 h0) G cI cJ cZ cD cR cT A kp L) ([.ref h0] : List Value).toArray s 0 0 A) (F0 m 4 ls []) := by
    intro n
    induction n with
    | zero =>
      intro y1374693 y1374695 b1374694 hm H locs ls hW hF hl
      have hz := i32_b y1374693
      exfalso; omega
    | succ n ih =>
      intro y1374693 y1374695 b1374694 hm H locs ls hW hF hl
      have ih4 := ih
      refine lv_iload_n hx hb dX1_sumOfRents_4 rfl (lv_at hl 0 rfl) ?_
      refine lv_aload_n hx hb dX1_sumOfRents_5 rfl (lv_at hl 2 rfl) ?_
      refine fg_RX1_46 E hW rh0 dX1_sumOfRents_6 (fun y1374697 m1374698 b1374699 => ?_)
      refine q_icmp_ge (tgt := 28) hx hb dX1_sumOfRents_9 (by decide) rfl rfl (fun c1374712 => ?_) (fun c1374712 => ?_)
      · refine lv_lload_n hx hb dX1_sumOfRents_28 rfl (lv_at hl 1 rfl) ?_
        exact e_J E hW rfl ⟨⟨_, rfl, trivial⟩, hF⟩ dX1_sumOfRents_29
      · refine lv_lload_n hx hb dX1_sumOfRents_12 rfl (lv_at hl 1 rfl) ?_
        refine lv_aload_n hx hb dX1_sumOfRents_13 rfl (lv_at hl 2 rfl) ?_
        refine fg_RX1_18 E hW rh0 dX1_sumOfRents_14 (fun a1374713 m1374714 r1374715 => ?_)
        refine lv_iload_n hx hb dX1_sumOfRents_17 rfl (lv_at hl 0 rfl) ?_
        refine gl_163 E hW r1374715 ⟨by omega, by omega⟩ dX1_sumOfRents_18 (fun y1374716 m1374717 => ?_)
        refine q_i2l hx hb dX1_sumOfRents_19 rfl (fun x1374719 h1374720 => ?_)
        have hb1374721 : -2147483648 ≤ x1374719.toInt ∧ x1374719.toInt ≤ 2147483647 := by have := i32_b y1374716; omega
        refine u_ladd hx hb dX1_sumOfRents_20 (fun x1374722 => ?_)
        refine lv_lstore_n (lv' := [(1, .long x1374722), (3, .int y1374693), (0, .ref h0)]) hx hb dX1_sumOfRents_21 rfl hl (by decide) rfl (fun ls hl => ?_)
        refine q_iinc hx hb dX1_sumOfRents_22 hl (k := 1) rfl rfl rfl (by omega) (by decide) (fun i1374723 ls h1374724 hl => ?_)
        have hl : lv_has ls 4 [(3, .int i1374723), (1, .long x1374722), (0, .ref h0)] := hl
        refine lv_goto (tgt := 4) hx hb dX1_sumOfRents_25 (by decide) ?_
        exact ih4 i1374723 x1374722 (by omega) (by omega) _ _ _ hW hF (lv_sub hl [0, 1, 2] rfl)
  have hk1374725 : (0 : Int32).toInt = 0 := rfl
  have hk1374726 : (0 : Int64).toInt = 0 := rfl
  exact L1374696 41 0 0 (by decide) (by omega) _ _ _ hW hF (lv_sub hl [0, 1, 2] rfl)
def ms_X1_sumByPlace : List (Nat × Nat) := []
def po_X1_sumByPlace (kp : Nat → Nat) (L : List Nat) (f0 : Nat → va_E) (h0 : Nat) : Option Value → (Nat → va_E) → Prop := fun v f => (∃ r : Int64, v = some (.long r) ∧ (True)) ∧ FM kp L ms_X1_sumByPlace f0 f
set_option maxHeartbeats 4000000 in
set_option maxRecDepth 100000 in
theorem c_X1_sumByPlace (l : Launch) (G : va_G) (cI cJ cZ cD cR cT : ClassId) (kp : Nat → Nat) (L : List Nat) (f0 : Nat → va_E) (hTH : TH cI cJ cZ cD cR cT kp L f0) (sz : Nat) (h0 : Nat) (rh0 : RK kp L h0 1) : Met l yX1_sumByPlace (Cond.code yX1_sumByPlace cX1_sumByPlace 4 (some .long) :: wTab) ({ frames := 1, cells := 0, slots := 0, locals := 40 }) (va_Pc [.ref h0] (PreW G (tys6 cI cJ cZ cD cR cT) (va_pl L f0) sz)) (QT (po_X1_sumByPlace kp L f0 h0) G cI cJ cZ cD cR cT (va_A (va_pl L f0) sz) kp L) 0 0 (va_A (va_pl L f0) sz) := by
  refine metT (by decide) (Nat.le_of_ble_eq_true rfl) hTH ?_
  intro p e s m below meth c A ls E hW hl
  obtain ⟨hx, hb, -, hml, hown, hts, -, -, -⟩ := id E
  have hF : FM kp L ms_X1_sumByPlace f0 f0 := FM.rf
  have hl : lv_has ls 4 [(0, .ref h0)] := hl
  refine lv_lconst (v := 0) hx hb dX1_sumByPlace_0 (by decide) ?_
  refine lv_lstore_n (lv' := [(1, .long 0), (0, .ref h0)]) hx hb dX1_sumByPlace_1 rfl hl (by decide) rfl (fun ls hl => ?_)
  refine lv_iconst (v := 0) hx hb dX1_sumByPlace_2 (by decide) ?_
  refine lv_istore_n (lv' := [(3, .int 0), (1, .long 0), (0, .ref h0)]) hx hb dX1_sumByPlace_3 rfl hl (by decide) rfl (fun ls hl => ?_)
  have L1375188 : ∀ (n : Nat), ∀ (y1375185 : Int32) (y1375187 : Int64) (b1375186 : (0 : Int) ≤ y1375185.toInt ∧ y1375185.toInt ≤ 40) (hm : (41 : Int) - y1375185.toInt ≤ n) (H : Heap) (locs : List Loc) (ls : Array Slot), WS G cI cJ cZ cD cR cT A kp L f0 s H locs → FM kp L ms_X1_sumByPlace f0 f0 → lv_has ls 4 [(3, .int y1375185), (1, .long y1375187), (0, .ref h0)] → W p l e ({ frames := 1, cells := 0, slots := 0, locals := 40 }) s m ([.ref h0] : List Value).toArray below meth c H locs 0 0 (MQ below (QT (po_X1_sumByPlace kp L f0 h0) G cI cJ cZ cD cR cT A kp L) ([.ref h0] : List Value).toArray s 0 0 A) (F0 m 4 ls []) := by
    intro n
    induction n with
    | zero =>
      intro y1375185 y1375187 b1375186 hm H locs ls hW hF hl
      have hz := i32_b y1375185
      exfalso; omega
    | succ n ih =>
      intro y1375185 y1375187 b1375186 hm H locs ls hW hF hl
      have ih4 := ih
      refine lv_iload_n hx hb dX1_sumByPlace_4 rfl (lv_at hl 0 rfl) ?_
      refine lv_aload_n hx hb dX1_sumByPlace_5 rfl (lv_at hl 2 rfl) ?_
      refine fg_RX1_46 E hW rh0 dX1_sumByPlace_6 (fun y1375189 m1375190 b1375191 => ?_)
      refine q_icmp_ge (tgt := 33) hx hb dX1_sumByPlace_9 (by decide) rfl rfl (fun c1375209 => ?_) (fun c1375209 => ?_)
      · refine lv_lload_n hx hb dX1_sumByPlace_33 rfl (lv_at hl 1 rfl) ?_
        exact e_J E hW rfl ⟨⟨_, rfl, trivial⟩, hF⟩ dX1_sumByPlace_34
      · refine lv_lload_n hx hb dX1_sumByPlace_12 rfl (lv_at hl 1 rfl) ?_
        refine lv_aload_n hx hb dX1_sumByPlace_13 rfl (lv_at hl 2 rfl) ?_
        refine fg_RX1_18 E hW rh0 dX1_sumByPlace_14 (fun a1375210 m1375211 r1375212 => ?_)
        refine lv_iload_n hx hb dX1_sumByPlace_17 rfl (lv_at hl 0 rfl) ?_
        refine gl_163 E hW r1375212 ⟨by omega, by omega⟩ dX1_sumByPlace_18 (fun y1375213 m1375214 => ?_)
        refine q_i2l hx hb dX1_sumByPlace_19 rfl (fun x1375216 h1375217 => ?_)
        have hb1375218 : -2147483648 ≤ x1375216.toInt ∧ x1375216.toInt ≤ 2147483647 := by have := i32_b y1375213; omega
        refine lv_iload_n hx hb dX1_sumByPlace_20 rfl (lv_at hl 0 rfl) ?_
        refine lv_iconst (v := 1) hx hb dX1_sumByPlace_21 (by decide) ?_
        refine q_iadd (Y := 1) hx hb dX1_sumByPlace_22 rfl rfl (by omega) (fun x1375219 h1375220 => ?_)
        refine q_i2l hx hb dX1_sumByPlace_23 rfl (fun x1375221 h1375222 => ?_)
        refine u_lmul hx hb dX1_sumByPlace_24 (fun x1375223 => ?_)
        refine u_ladd hx hb dX1_sumByPlace_25 (fun x1375224 => ?_)
        refine lv_lstore_n (lv' := [(1, .long x1375224), (3, .int y1375185), (0, .ref h0)]) hx hb dX1_sumByPlace_26 rfl hl (by decide) rfl (fun ls hl => ?_)
        refine q_iinc hx hb dX1_sumByPlace_27 hl (k := 1) rfl rfl rfl (by omega) (by decide) (fun i1375225 ls h1375226 hl => ?_)
        have hl : lv_has ls 4 [(3, .int i1375225), (1, .long x1375224), (0, .ref h0)] := hl
        refine lv_goto (tgt := 4) hx hb dX1_sumByPlace_30 (by decide) ?_
        exact ih4 i1375225 x1375224 (by omega) (by omega) _ _ _ hW hF (lv_sub hl [0, 1, 2] rfl)
  have hk1375227 : (0 : Int32).toInt = 0 := rfl
  have hk1375228 : (0 : Int64).toInt = 0 := rfl
  exact L1375188 41 0 0 (by decide) (by omega) _ _ _ hW hF (lv_sub hl [0, 1, 2] rfl)
def ms_X1_findAltered : List (Nat × Nat) := []
def po_X1_findAltered (kp : Nat → Nat) (L : List Nat) (f0 : Nat → va_E) (h0 : Nat) : Option Value → (Nat → va_E) → Prop := fun v f => (∃ r : Int32, v = some (.int r) ∧ ((-3 : Int) ≤ r.toInt ∧ r.toInt ≤ 39)) ∧ FM kp L ms_X1_findAltered f0 f
set_option maxHeartbeats 4000000 in
set_option maxRecDepth 100000 in
theorem c_X1_findAltered (l : Launch) (G : va_G) (cI cJ cZ cD cR cT : ClassId) (kp : Nat → Nat) (L : List Nat) (f0 : Nat → va_E) (hTH : TH cI cJ cZ cD cR cT kp L f0) (sz : Nat) (h0 : Nat) (rh0 : RK kp L h0 1) : Met l yX1_findAltered (Cond.code yX1_findAltered cX1_findAltered 6 (some .int) :: wTab) ({ frames := 2, cells := 0, slots := 0, locals := 63 }) (va_Pc [.ref h0] (PreW G (tys6 cI cJ cZ cD cR cT) (va_pl L f0) sz)) (QT (po_X1_findAltered kp L f0 h0) G cI cJ cZ cD cR cT (va_A (va_pl L f0) sz) kp L) 0 0 (va_A (va_pl L f0) sz) := by
  refine metT (by decide) (Nat.le_of_ble_eq_true rfl) hTH ?_
  intro p e s m below meth c A ls E hW hl
  obtain ⟨hx, hb, -, hml, hown, hts, -, -, -⟩ := id E
  have hF : FM kp L ms_X1_findAltered f0 f0 := FM.rf
  have hl : lv_has ls 6 [(0, .ref h0)] := hl
  refine lv_aload_n hx hb dX1_findAltered_0 rfl (lv_at hl 0 rfl) ?_
  refine fg_RX1_42 E hW rh0 dX1_findAltered_1 (fun y1375229 m1375230 => ?_)
  refine lv_iconst (v := (-1)) hx hb dX1_findAltered_4 (by decide) ?_
  refine q_icmp_ne (Y := -1) (tgt := 11) hx hb dX1_findAltered_5 (by decide) rfl rfl (fun c1375232 => ?_) (fun c1375232 => ?_)
  · refine lv_aload_n hx hb dX1_findAltered_11 rfl (lv_at hl 0 rfl) ?_
    refine fg_RX1_46 E hW rh0 dX1_findAltered_12 (fun y1375233 m1375234 b1375235 => ?_)
    refine lv_aload_n hx hb dX1_findAltered_15 rfl (lv_at hl 0 rfl) ?_
    refine fg_RX1_42 E hW rh0 dX1_findAltered_16 (fun y1375236 m1375237 => ?_)
    obtain rfl : y1375229 = y1375236 := (m1375230).symm.trans m1375237
    refine q_icmp_le (tgt := 25) hx hb dX1_findAltered_19 (by decide) rfl rfl (fun c1375239 => ?_) (fun c1375239 => ?_)
    · refine lv_aload_n hx hb dX1_findAltered_25 rfl (lv_at hl 0 rfl) ?_
      refine t_callV (As := []) (rest := []) E hW (c_X1_sumOfRents l G cI cJ cZ cD cR cT kp L f0 hW.2.2.2 _ h0 rh0) rh0 (by decide) rfl wk_X1_sumOfRents tw_1348 rfl ⟨Nat.le_of_ble_eq_true rfl, Nat.le_of_ble_eq_true rfl⟩ ⟨rfl, rfl⟩ hl.1 rfl (Nat.le_of_ble_eq_true rfl) dX1_findAltered_26 ⟨Nat.le_of_ble_eq_true rfl, Nat.le_of_ble_eq_true rfl⟩ (fun v1375240 f1375241 H locs q1375242 hW => ?_)
      obtain ⟨⟨x1375244, rfl, p1375245⟩, g1375243⟩ := q1375242
      clear p1375245
      have hF := FM.tr hF g1375243 rfl
      refine lv_aload_n hx hb dX1_findAltered_29 rfl (lv_at hl 0 rfl) ?_
      refine fg_RX1_62 E hW rh0 dX1_findAltered_30 (fun y1375246 m1375247 => ?_)
      refine u_lsub hx hb dX1_findAltered_33 (fun x1375248 => ?_)
      refine lv_lstore_n (lv' := [(1, .long x1375248), (0, .ref h0)]) hx hb dX1_findAltered_34 rfl hl (by decide) rfl (fun ls hl => ?_)
      refine lv_aload_n hx hb dX1_findAltered_35 rfl (lv_at hl 1 rfl) ?_
      refine t_callV (As := []) (rest := []) E hW (c_X1_sumByPlace l G cI cJ cZ cD cR cT kp L f1375241 hW.2.2.2 _ h0 rh0) rh0 (by decide) rfl wk_X1_sumByPlace tw_1352 rfl ⟨Nat.le_of_ble_eq_true rfl, Nat.le_of_ble_eq_true rfl⟩ ⟨rfl, rfl⟩ hl.1 rfl (Nat.le_of_ble_eq_true rfl) dX1_findAltered_36 ⟨Nat.le_of_ble_eq_true rfl, Nat.le_of_ble_eq_true rfl⟩ (fun v1375249 f1375250 H locs q1375251 hW => ?_)
      obtain ⟨⟨x1375253, rfl, p1375254⟩, g1375252⟩ := q1375251
      clear p1375254
      have hF := FM.tr hF g1375252 rfl
      refine lv_aload_n hx hb dX1_findAltered_39 rfl (lv_at hl 1 rfl) ?_
      refine fg_RX1_69 E hW rh0 dX1_findAltered_40 (fun y1375255 m1375256 => ?_)
      refine u_lsub hx hb dX1_findAltered_43 (fun x1375257 => ?_)
      refine lv_lstore_n (lv' := [(3, .long x1375257), (1, .long x1375248), (0, .ref h0)]) hx hb dX1_findAltered_44 rfl hl (by decide) rfl (fun ls hl => ?_)
      refine lv_lload_n hx hb dX1_findAltered_45 rfl (lv_at hl 1 rfl) ?_
      refine lv_lconst (v := 0) hx hb dX1_findAltered_46 (by decide) ?_
      refine q_lcmp_ne (Y := 0) (tgt := 59) hx hb dX1_findAltered_47 dX1_findAltered_48 (by decide) rfl rfl (fun c1375258 => ?_) (fun c1375258 => ?_)
      · refine lv_iconst (v := 0) hx hb dX1_findAltered_59 (by decide) ?_
        refine lv_istore (lv' := [(5, .int 0), (3, .long x1375257), (1, .long x1375248), (0, .ref h0)]) hx hb dX1_findAltered_60 hl (by decide) rfl (fun ls hl => ?_)
        have L1375527 : ∀ (n : Nat), ∀ (y1375525 : Int32) (b1375526 : (0 : Int) ≤ y1375525.toInt ∧ y1375525.toInt ≤ 40) (hm : (41 : Int) - y1375525.toInt ≤ n) (H : Heap) (locs : List Loc) (ls : Array Slot), WS G cI cJ cZ cD cR cT A kp L f1375250 s H locs → FM kp L ms_X1_findAltered f0 f1375250 → lv_has ls 6 [(5, .int y1375525), (3, .long x1375257), (1, .long x1375248), (0, .ref h0)] → W p l e ({ frames := 2, cells := 0, slots := 0, locals := 63 }) s m ([.ref h0] : List Value).toArray below meth c H locs 0 0 (MQ below (QT (po_X1_findAltered kp L f0 h0) G cI cJ cZ cD cR cT A kp L) ([.ref h0] : List Value).toArray s 0 0 A) (F0 m 62 ls []) := by
          intro n
          induction n with
          | zero =>
            intro y1375525 b1375526 hm H locs ls hW hF hl
            have hz := i32_b y1375525
            exfalso; omega
          | succ n ih =>
            intro y1375525 b1375526 hm H locs ls hW hF hl
            have ih62 := ih
            refine lv_iload hx hb dX1_findAltered_62 (lv_at hl 0 rfl) ?_
            refine lv_aload_n hx hb dX1_findAltered_64 rfl (lv_at hl 3 rfl) ?_
            refine fg_RX1_46 E hW rh0 dX1_findAltered_65 (fun y1375528 m1375529 b1375530 => ?_)
            obtain rfl : y1375233 = y1375528 := (((fm_I g1375252 rh0 rfl).trans ((fm_I g1375243 rh0 rfl).trans m1375234))).symm.trans m1375529
            refine q_icmp_ge (tgt := 92) hx hb dX1_findAltered_68 (by decide) rfl rfl (fun c1375531 => ?_) (fun c1375531 => ?_)
            · refine lv_bipush (v := (-2)) hx hb dX1_findAltered_92 (by decide) ?_
              exact e_I E hW rfl ⟨⟨_, rfl, (by have hk : ((-2) : Int32).toInt = -2 := rfl; first | decide | omega)⟩, hF⟩ dX1_findAltered_94
            · refine lv_lload_n hx hb dX1_findAltered_71 rfl (lv_at hl 2 rfl) ?_
              refine lv_iload hx hb dX1_findAltered_72 (lv_at hl 0 rfl) ?_
              refine lv_iconst (v := 1) hx hb dX1_findAltered_74 (by decide) ?_
              refine q_iadd (Y := 1) hx hb dX1_findAltered_75 rfl rfl (by omega) (fun x1375532 h1375533 => ?_)
              refine q_i2l hx hb dX1_findAltered_76 rfl (fun x1375534 h1375535 => ?_)
              refine u_lmul hx hb dX1_findAltered_77 (fun x1375536 => ?_)
              refine lv_lload_n hx hb dX1_findAltered_78 rfl (lv_at hl 1 rfl) ?_
              refine q_lcmp_ne (tgt := 86) hx hb dX1_findAltered_79 dX1_findAltered_80 (by decide) rfl rfl (fun c1375537 => ?_) (fun c1375537 => ?_)
              · refine q_iinc hx hb dX1_findAltered_86 hl (k := 0) rfl rfl rfl (by omega) (by decide) (fun i1375538 ls h1375539 hl => ?_)
                have hl : lv_has ls 6 [(5, .int i1375538), (3, .long x1375257), (1, .long x1375248), (0, .ref h0)] := hl
                refine lv_goto (tgt := 62) hx hb dX1_findAltered_89 (by decide) ?_
                exact ih62 i1375538 (by omega) (by omega) _ _ _ hW hF (lv_sub hl [0, 1, 2, 3] rfl)
              · refine lv_iload hx hb dX1_findAltered_83 (lv_at hl 0 rfl) ?_
                exact e_I E hW rfl ⟨⟨_, rfl, (by first | omega | trivial)⟩, hF⟩ dX1_findAltered_85
        have hk1375540 : (0 : Int32).toInt = 0 := rfl
        exact L1375527 41 0 (by decide) (by omega) _ _ _ hW hF (lv_sub hl [0, 1, 2, 3] rfl)
      · refine lv_lload_n hx hb dX1_findAltered_51 rfl (lv_at hl 0 rfl) ?_
        refine lv_lconst (v := 0) hx hb dX1_findAltered_52 (by decide) ?_
        refine q_lcmp_ne (Y := 0) (tgt := 59) hx hb dX1_findAltered_53 dX1_findAltered_54 (by decide) rfl rfl (fun c1375541 => ?_) (fun c1375541 => ?_)
        · refine lv_iconst (v := 0) hx hb dX1_findAltered_59 (by decide) ?_
          refine lv_istore (lv' := [(5, .int 0), (3, .long x1375257), (1, .long x1375248), (0, .ref h0)]) hx hb dX1_findAltered_60 hl (by decide) rfl (fun ls hl => ?_)
          have L1375810 : ∀ (n : Nat), ∀ (y1375808 : Int32) (b1375809 : (0 : Int) ≤ y1375808.toInt ∧ y1375808.toInt ≤ 40) (hm : (41 : Int) - y1375808.toInt ≤ n) (H : Heap) (locs : List Loc) (ls : Array Slot), WS G cI cJ cZ cD cR cT A kp L f1375250 s H locs → FM kp L ms_X1_findAltered f0 f1375250 → lv_has ls 6 [(5, .int y1375808), (3, .long x1375257), (1, .long x1375248), (0, .ref h0)] → W p l e ({ frames := 2, cells := 0, slots := 0, locals := 63 }) s m ([.ref h0] : List Value).toArray below meth c H locs 0 0 (MQ below (QT (po_X1_findAltered kp L f0 h0) G cI cJ cZ cD cR cT A kp L) ([.ref h0] : List Value).toArray s 0 0 A) (F0 m 62 ls []) := by
            intro n
            induction n with
            | zero =>
              intro y1375808 b1375809 hm H locs ls hW hF hl
              have hz := i32_b y1375808
              exfalso; omega
            | succ n ih =>
              intro y1375808 b1375809 hm H locs ls hW hF hl
              have ih62 := ih
              refine lv_iload hx hb dX1_findAltered_62 (lv_at hl 0 rfl) ?_
              refine lv_aload_n hx hb dX1_findAltered_64 rfl (lv_at hl 3 rfl) ?_
              refine fg_RX1_46 E hW rh0 dX1_findAltered_65 (fun y1375811 m1375812 b1375813 => ?_)
              obtain rfl : y1375233 = y1375811 := (((fm_I g1375252 rh0 rfl).trans ((fm_I g1375243 rh0 rfl).trans m1375234))).symm.trans m1375812
              refine q_icmp_ge (tgt := 92) hx hb dX1_findAltered_68 (by decide) rfl rfl (fun c1375814 => ?_) (fun c1375814 => ?_)
              · refine lv_bipush (v := (-2)) hx hb dX1_findAltered_92 (by decide) ?_
                exact e_I E hW rfl ⟨⟨_, rfl, (by have hk : ((-2) : Int32).toInt = -2 := rfl; first | decide | omega)⟩, hF⟩ dX1_findAltered_94
              · refine lv_lload_n hx hb dX1_findAltered_71 rfl (lv_at hl 2 rfl) ?_
                refine lv_iload hx hb dX1_findAltered_72 (lv_at hl 0 rfl) ?_
                refine lv_iconst (v := 1) hx hb dX1_findAltered_74 (by decide) ?_
                refine q_iadd (Y := 1) hx hb dX1_findAltered_75 rfl rfl (by omega) (fun x1375815 h1375816 => ?_)
                refine q_i2l hx hb dX1_findAltered_76 rfl (fun x1375817 h1375818 => ?_)
                refine u_lmul hx hb dX1_findAltered_77 (fun x1375819 => ?_)
                refine lv_lload_n hx hb dX1_findAltered_78 rfl (lv_at hl 1 rfl) ?_
                refine q_lcmp_ne (tgt := 86) hx hb dX1_findAltered_79 dX1_findAltered_80 (by decide) rfl rfl (fun c1375820 => ?_) (fun c1375820 => ?_)
                · refine q_iinc hx hb dX1_findAltered_86 hl (k := 0) rfl rfl rfl (by omega) (by decide) (fun i1375821 ls h1375822 hl => ?_)
                  have hl : lv_has ls 6 [(5, .int i1375821), (3, .long x1375257), (1, .long x1375248), (0, .ref h0)] := hl
                  refine lv_goto (tgt := 62) hx hb dX1_findAltered_89 (by decide) ?_
                  exact ih62 i1375821 (by omega) (by omega) _ _ _ hW hF (lv_sub hl [0, 1, 2, 3] rfl)
                · refine lv_iload hx hb dX1_findAltered_83 (lv_at hl 0 rfl) ?_
                  exact e_I E hW rfl ⟨⟨_, rfl, (by first | omega | trivial)⟩, hF⟩ dX1_findAltered_85
          have hk1375823 : (0 : Int32).toInt = 0 := rfl
          exact L1375810 41 0 (by decide) (by omega) _ _ _ hW hF (lv_sub hl [0, 1, 2, 3] rfl)
        · refine lv_iconst (v := (-1)) hx hb dX1_findAltered_57 (by decide) ?_
          exact e_I E hW rfl ⟨⟨_, rfl, (by have hk : ((-1) : Int32).toInt = -1 := rfl; first | decide | omega)⟩, hF⟩ dX1_findAltered_58
    · refine lv_bipush (v := (-2)) hx hb dX1_findAltered_22 (by decide) ?_
      exact e_I E hW rfl ⟨⟨_, rfl, (by have hk : ((-2) : Int32).toInt = -2 := rfl; first | decide | omega)⟩, hF⟩ dX1_findAltered_24
  · refine lv_bipush (v := (-3)) hx hb dX1_findAltered_8 (by decide) ?_
    exact e_I E hW rfl ⟨⟨_, rfl, (by have hk : ((-3) : Int32).toInt = -3 := rfl; first | decide | omega)⟩, hF⟩ dX1_findAltered_10
def ms_X1_has : List (Nat × Nat) := []
def po_X1_has (kp : Nat → Nat) (L : List Nat) (f0 : Nat → va_E) (h0 : Nat) (u1 : Int32) : Option Value → (Nat → va_E) → Prop := fun v f => (∃ r : Int32, v = some (.int r) ∧ ((r.toInt = 1 ∧ 0 ≤ u1.toInt ∧ u1.toInt ≤ 39) ∨ r.toInt = 0)) ∧ FM kp L ms_X1_has f0 f
set_option maxHeartbeats 4000000 in
set_option maxRecDepth 100000 in
theorem c_X1_has (l : Launch) (G : va_G) (cI cJ cZ cD cR cT : ClassId) (kp : Nat → Nat) (L : List Nat) (f0 : Nat → va_E) (hTH : TH cI cJ cZ cD cR cT kp L f0) (sz : Nat) (h0 : Nat) (u1 : Int32) (rh0 : RK kp L h0 1) : Met l yX1_has (Cond.code yX1_has cX1_has 2 (some .boolean) :: wTab) ({ frames := 1, cells := 0, slots := 0, locals := 40 }) (va_Pc [.ref h0, .int u1] (PreW G (tys6 cI cJ cZ cD cR cT) (va_pl L f0) sz)) (QT (po_X1_has kp L f0 h0 u1) G cI cJ cZ cD cR cT (va_A (va_pl L f0) sz) kp L) 0 0 (va_A (va_pl L f0) sz) := by
  refine metT (by decide) (Nat.le_of_ble_eq_true rfl) hTH ?_
  intro p e s m below meth c A ls E hW hl
  obtain ⟨hx, hb, -, hml, hown, hts, -, -, -⟩ := id E
  have hF : FM kp L ms_X1_has f0 f0 := FM.rf
  have hl : lv_has ls 2 [(0, .ref h0), (1, .int u1)] := hl
  refine lv_iload_n hx hb dX1_has_0 rfl (lv_at hl 1 rfl) ?_
  refine q_if_lt (tgt := 16) hx hb dX1_has_1 (by decide) rfl (fun c1375824 => ?_) (fun c1375824 => ?_)
  · refine lv_iconst (v := 0) hx hb dX1_has_16 (by decide) ?_
    exact e_Z E hW rfl (by decide) ⟨⟨_, rfl, (by have hk : (0 : Int32).toInt = 0 := rfl; first | decide | omega)⟩, hF⟩ dX1_has_17
  · refine lv_iload_n hx hb dX1_has_4 rfl (lv_at hl 1 rfl) ?_
    refine lv_aload_n hx hb dX1_has_5 rfl (lv_at hl 0 rfl) ?_
    refine fg_RX1_46 E hW rh0 dX1_has_6 (fun y1375825 m1375826 b1375827 => ?_)
    refine q_icmp_ge (tgt := 16) hx hb dX1_has_9 (by decide) rfl rfl (fun c1375828 => ?_) (fun c1375828 => ?_)
    · refine lv_iconst (v := 0) hx hb dX1_has_16 (by decide) ?_
      exact e_Z E hW rfl (by decide) ⟨⟨_, rfl, (by have hk : (0 : Int32).toInt = 0 := rfl; first | decide | omega)⟩, hF⟩ dX1_has_17
    · refine lv_iconst (v := 1) hx hb dX1_has_12 (by decide) ?_
      refine lv_goto (tgt := 17) hx hb dX1_has_13 (by decide) ?_
      exact e_Z E hW rfl (by decide) ⟨⟨_, rfl, (by have hk : (1 : Int32).toInt = 1 := rfl; first | decide | omega)⟩, hF⟩ dX1_has_17
def ms_X1_hasEstate : List (Nat × Nat) := []
def po_X1_hasEstate (kp : Nat → Nat) (L : List Nat) (f0 : Nat → va_E) (h0 : Nat) (u1 : Int32) : Option Value → (Nat → va_E) → Prop := fun v f => (∃ r : Int32, v = some (.int r) ∧ ((r.toInt = 1 ∧ 0 ≤ u1.toInt ∧ u1.toInt ≤ 7) ∨ r.toInt = 0)) ∧ FM kp L ms_X1_hasEstate f0 f
set_option maxHeartbeats 4000000 in
set_option maxRecDepth 100000 in
theorem c_X1_hasEstate (l : Launch) (G : va_G) (cI cJ cZ cD cR cT : ClassId) (kp : Nat → Nat) (L : List Nat) (f0 : Nat → va_E) (hTH : TH cI cJ cZ cD cR cT kp L f0) (sz : Nat) (h0 : Nat) (u1 : Int32) (rh0 : RK kp L h0 1) : Met l yX1_hasEstate (Cond.code yX1_hasEstate cX1_hasEstate 2 (some .boolean) :: wTab) ({ frames := 1, cells := 0, slots := 0, locals := 40 }) (va_Pc [.ref h0, .int u1] (PreW G (tys6 cI cJ cZ cD cR cT) (va_pl L f0) sz)) (QT (po_X1_hasEstate kp L f0 h0 u1) G cI cJ cZ cD cR cT (va_A (va_pl L f0) sz) kp L) 0 0 (va_A (va_pl L f0) sz) := by
  refine metT (by decide) (Nat.le_of_ble_eq_true rfl) hTH ?_
  intro p e s m below meth c A ls E hW hl
  obtain ⟨hx, hb, -, hml, hown, hts, -, -, -⟩ := id E
  have hF : FM kp L ms_X1_hasEstate f0 f0 := FM.rf
  have hl : lv_has ls 2 [(0, .ref h0), (1, .int u1)] := hl
  refine lv_iload_n hx hb dX1_hasEstate_0 rfl (lv_at hl 1 rfl) ?_
  refine q_if_lt (tgt := 16) hx hb dX1_hasEstate_1 (by decide) rfl (fun c1375829 => ?_) (fun c1375829 => ?_)
  · refine lv_iconst (v := 0) hx hb dX1_hasEstate_16 (by decide) ?_
    exact e_Z E hW rfl (by decide) ⟨⟨_, rfl, (by have hk : (0 : Int32).toInt = 0 := rfl; first | decide | omega)⟩, hF⟩ dX1_hasEstate_17
  · refine lv_iload_n hx hb dX1_hasEstate_4 rfl (lv_at hl 1 rfl) ?_
    refine lv_aload_n hx hb dX1_hasEstate_5 rfl (lv_at hl 0 rfl) ?_
    refine fg_RX1_49 E hW rh0 dX1_hasEstate_6 (fun y1375830 m1375831 b1375832 => ?_)
    refine q_icmp_ge (tgt := 16) hx hb dX1_hasEstate_9 (by decide) rfl rfl (fun c1375833 => ?_) (fun c1375833 => ?_)
    · refine lv_iconst (v := 0) hx hb dX1_hasEstate_16 (by decide) ?_
      exact e_Z E hW rfl (by decide) ⟨⟨_, rfl, (by have hk : (0 : Int32).toInt = 0 := rfl; first | decide | omega)⟩, hF⟩ dX1_hasEstate_17
    · refine lv_iconst (v := 1) hx hb dX1_hasEstate_12 (by decide) ?_
      refine lv_goto (tgt := 17) hx hb dX1_hasEstate_13 (by decide) ?_
      exact e_Z E hW rfl (by decide) ⟨⟨_, rfl, (by have hk : (1 : Int32).toInt = 1 := rfl; first | decide | omega)⟩, hF⟩ dX1_hasEstate_17
def ms_X1_isGrabbedBy : List (Nat × Nat) := []
def po_X1_isGrabbedBy (kp : Nat → Nat) (L : List Nat) (f0 : Nat → va_E) (h0 : Nat) (u1 : Int32) : Option Value → (Nat → va_E) → Prop := fun v f => (∃ r : Int32, v = some (.int r) ∧ ((0 : Int) ≤ r.toInt ∧ r.toInt ≤ 1)) ∧ FM kp L ms_X1_isGrabbedBy f0 f
set_option maxHeartbeats 4000000 in
set_option maxRecDepth 100000 in
theorem c_X1_isGrabbedBy (l : Launch) (G : va_G) (cI cJ cZ cD cR cT : ClassId) (kp : Nat → Nat) (L : List Nat) (f0 : Nat → va_E) (hTH : TH cI cJ cZ cD cR cT kp L f0) (sz : Nat) (h0 : Nat) (u1 : Int32) (rh0 : RK kp L h0 1) (pu1 : (0 : Int) ≤ u1.toInt ∧ u1.toInt ≤ 39) : Met l yX1_isGrabbedBy (Cond.code yX1_isGrabbedBy cX1_isGrabbedBy 3 (some .boolean) :: wTab) ({ frames := 1, cells := 0, slots := 0, locals := 40 }) (va_Pc [.ref h0, .int u1] (PreW G (tys6 cI cJ cZ cD cR cT) (va_pl L f0) sz)) (QT (po_X1_isGrabbedBy kp L f0 h0 u1) G cI cJ cZ cD cR cT (va_A (va_pl L f0) sz) kp L) 0 0 (va_A (va_pl L f0) sz) := by
  refine metT (by decide) (Nat.le_of_ble_eq_true rfl) hTH ?_
  intro p e s m below meth c A ls E hW hl
  obtain ⟨hx, hb, -, hml, hown, hts, -, -, -⟩ := id E
  have hF : FM kp L ms_X1_isGrabbedBy f0 f0 := FM.rf
  have hl : lv_has ls 3 [(0, .ref h0), (1, .int u1)] := hl
  refine lv_iconst (v := 0) hx hb dX1_isGrabbedBy_0 (by decide) ?_
  refine lv_istore_n (lv' := [(2, .int 0), (0, .ref h0), (1, .int u1)]) hx hb dX1_isGrabbedBy_1 rfl hl (by decide) rfl (fun ls hl => ?_)
  have L1376292 : ∀ (n : Nat), ∀ (y1376290 : Int32) (b1376291 : (0 : Int) ≤ y1376290.toInt ∧ y1376290.toInt ≤ 40) (hm : (41 : Int) - y1376290.toInt ≤ n) (H : Heap) (locs : List Loc) (ls : Array Slot), WS G cI cJ cZ cD cR cT A kp L f0 s H locs → FM kp L ms_X1_isGrabbedBy f0 f0 → lv_has ls 3 [(2, .int y1376290), (0, .ref h0), (1, .int u1)] → W p l e ({ frames := 1, cells := 0, slots := 0, locals := 40 }) s m ([.ref h0, .int u1] : List Value).toArray below meth c H locs 0 0 (MQ below (QT (po_X1_isGrabbedBy kp L f0 h0 u1) G cI cJ cZ cD cR cT A kp L) ([.ref h0, .int u1] : List Value).toArray s 0 0 A) (F0 m 2 ls []) := by
    intro n
    induction n with
    | zero =>
      intro y1376290 b1376291 hm H locs ls hW hF hl
      have hz := i32_b y1376290
      exfalso; omega
    | succ n ih =>
      intro y1376290 b1376291 hm H locs ls hW hF hl
      have ih2 := ih
      refine lv_iload_n hx hb dX1_isGrabbedBy_2 rfl (lv_at hl 0 rfl) ?_
      refine lv_aload_n hx hb dX1_isGrabbedBy_3 rfl (lv_at hl 1 rfl) ?_
      refine fg_RX1_46 E hW rh0 dX1_isGrabbedBy_4 (fun y1376293 m1376294 b1376295 => ?_)
      refine q_icmp_ge (tgt := 38) hx hb dX1_isGrabbedBy_7 (by decide) rfl rfl (fun c1376296 => ?_) (fun c1376296 => ?_)
      · refine lv_iconst (v := 0) hx hb dX1_isGrabbedBy_38 (by decide) ?_
        exact e_Z E hW rfl (by decide) ⟨⟨_, rfl, (by have hk : (0 : Int32).toInt = 0 := rfl; first | decide | omega)⟩, hF⟩ dX1_isGrabbedBy_39
      · refine lv_aload_n hx hb dX1_isGrabbedBy_10 rfl (lv_at hl 1 rfl) ?_
        refine fg_RX1_21 E hW rh0 dX1_isGrabbedBy_11 (fun a1376297 m1376298 r1376299 => ?_)
        refine lv_iload_n hx hb dX1_isGrabbedBy_14 rfl (lv_at hl 0 rfl) ?_
        refine gl_164 E hW r1376299 ⟨by omega, by omega⟩ dX1_isGrabbedBy_15 (fun y1376300 m1376301 b1376302 => ?_)
        refine lv_iload_n hx hb dX1_isGrabbedBy_16 rfl (lv_at hl 2 rfl) ?_
        refine q_icmp_ne (tgt := 32) hx hb dX1_isGrabbedBy_17 (by decide) rfl rfl (fun c1376303 => ?_) (fun c1376303 => ?_)
        · refine q_iinc hx hb dX1_isGrabbedBy_32 hl (k := 0) rfl rfl rfl (by omega) (by decide) (fun i1376304 ls h1376305 hl => ?_)
          have hl : lv_has ls 3 [(2, .int i1376304), (0, .ref h0), (1, .int u1)] := hl
          refine lv_goto (tgt := 2) hx hb dX1_isGrabbedBy_35 (by decide) ?_
          exact ih2 i1376304 (by omega) (by omega) _ _ _ hW hF (lv_sub hl [0, 1, 2] rfl)
        · refine lv_aload_n hx hb dX1_isGrabbedBy_20 rfl (lv_at hl 1 rfl) ?_
          refine fg_RX1_27 E hW rh0 dX1_isGrabbedBy_21 (fun a1376306 m1376307 r1376308 => ?_)
          refine lv_iload_n hx hb dX1_isGrabbedBy_24 rfl (lv_at hl 0 rfl) ?_
          refine gl_166 E hW r1376308 ⟨by omega, by omega⟩ dX1_isGrabbedBy_25 (fun y1376309 m1376310 => ?_)
          refine lv_iconst (v := 1) hx hb dX1_isGrabbedBy_26 (by decide) ?_
          refine q_icmp_ne (Y := 1) (tgt := 32) hx hb dX1_isGrabbedBy_27 (by decide) rfl rfl (fun c1376312 => ?_) (fun c1376312 => ?_)
          · refine q_iinc hx hb dX1_isGrabbedBy_32 hl (k := 0) rfl rfl rfl (by omega) (by decide) (fun i1376313 ls h1376314 hl => ?_)
            have hl : lv_has ls 3 [(2, .int i1376313), (0, .ref h0), (1, .int u1)] := hl
            refine lv_goto (tgt := 2) hx hb dX1_isGrabbedBy_35 (by decide) ?_
            exact ih2 i1376313 (by omega) (by omega) _ _ _ hW hF (lv_sub hl [0, 1, 2] rfl)
          · refine lv_iconst (v := 1) hx hb dX1_isGrabbedBy_30 (by decide) ?_
            exact e_Z E hW rfl (by decide) ⟨⟨_, rfl, (by have hk : (1 : Int32).toInt = 1 := rfl; first | decide | omega)⟩, hF⟩ dX1_isGrabbedBy_31
  have hk1376315 : (0 : Int32).toInt = 0 := rfl
  exact L1376292 41 0 (by decide) (by omega) _ _ _ hW hF (lv_sub hl [0, 1, 2] rfl)
def ms_X1_isHeldBy : List (Nat × Nat) := []
def po_X1_isHeldBy (kp : Nat → Nat) (L : List Nat) (f0 : Nat → va_E) (h0 : Nat) (u1 : Int32) : Option Value → (Nat → va_E) → Prop := fun v f => (∃ r : Int32, v = some (.int r) ∧ ((0 : Int) ≤ r.toInt ∧ r.toInt ≤ 1)) ∧ FM kp L ms_X1_isHeldBy f0 f
set_option maxHeartbeats 4000000 in
set_option maxRecDepth 100000 in
theorem c_X1_isHeldBy (l : Launch) (G : va_G) (cI cJ cZ cD cR cT : ClassId) (kp : Nat → Nat) (L : List Nat) (f0 : Nat → va_E) (hTH : TH cI cJ cZ cD cR cT kp L f0) (sz : Nat) (h0 : Nat) (u1 : Int32) (rh0 : RK kp L h0 1) (pu1 : (0 : Int) ≤ u1.toInt ∧ u1.toInt ≤ 39) : Met l yX1_isHeldBy (Cond.code yX1_isHeldBy cX1_isHeldBy 3 (some .boolean) :: wTab) ({ frames := 1, cells := 0, slots := 0, locals := 40 }) (va_Pc [.ref h0, .int u1] (PreW G (tys6 cI cJ cZ cD cR cT) (va_pl L f0) sz)) (QT (po_X1_isHeldBy kp L f0 h0 u1) G cI cJ cZ cD cR cT (va_A (va_pl L f0) sz) kp L) 0 0 (va_A (va_pl L f0) sz) := by
  refine metT (by decide) (Nat.le_of_ble_eq_true rfl) hTH ?_
  intro p e s m below meth c A ls E hW hl
  obtain ⟨hx, hb, -, hml, hown, hts, -, -, -⟩ := id E
  have hF : FM kp L ms_X1_isHeldBy f0 f0 := FM.rf
  have hl : lv_has ls 3 [(0, .ref h0), (1, .int u1)] := hl
  refine lv_iconst (v := 0) hx hb dX1_isHeldBy_0 (by decide) ?_
  refine lv_istore_n (lv' := [(2, .int 0), (0, .ref h0), (1, .int u1)]) hx hb dX1_isHeldBy_1 rfl hl (by decide) rfl (fun ls hl => ?_)
  have L1376603 : ∀ (n : Nat), ∀ (y1376601 : Int32) (b1376602 : (0 : Int) ≤ y1376601.toInt ∧ y1376601.toInt ≤ 40) (hm : (41 : Int) - y1376601.toInt ≤ n) (H : Heap) (locs : List Loc) (ls : Array Slot), WS G cI cJ cZ cD cR cT A kp L f0 s H locs → FM kp L ms_X1_isHeldBy f0 f0 → lv_has ls 3 [(2, .int y1376601), (0, .ref h0), (1, .int u1)] → W p l e ({ frames := 1, cells := 0, slots := 0, locals := 40 }) s m ([.ref h0, .int u1] : List Value).toArray below meth c H locs 0 0 (MQ below (QT (po_X1_isHeldBy kp L f0 h0 u1) G cI cJ cZ cD cR cT A kp L) ([.ref h0, .int u1] : List Value).toArray s 0 0 A) (F0 m 2 ls []) := by
    intro n
    induction n with
    | zero =>
      intro y1376601 b1376602 hm H locs ls hW hF hl
      have hz := i32_b y1376601
      exfalso; omega
    | succ n ih =>
      intro y1376601 b1376602 hm H locs ls hW hF hl
      have ih2 := ih
      refine lv_iload_n hx hb dX1_isHeldBy_2 rfl (lv_at hl 0 rfl) ?_
      refine lv_aload_n hx hb dX1_isHeldBy_3 rfl (lv_at hl 1 rfl) ?_
      refine fg_RX1_46 E hW rh0 dX1_isHeldBy_4 (fun y1376604 m1376605 b1376606 => ?_)
      refine q_icmp_ge (tgt := 28) hx hb dX1_isHeldBy_7 (by decide) rfl rfl (fun c1376607 => ?_) (fun c1376607 => ?_)
      · refine lv_iconst (v := 0) hx hb dX1_isHeldBy_28 (by decide) ?_
        exact e_Z E hW rfl (by decide) ⟨⟨_, rfl, (by have hk : (0 : Int32).toInt = 0 := rfl; first | decide | omega)⟩, hF⟩ dX1_isHeldBy_29
      · refine lv_aload_n hx hb dX1_isHeldBy_10 rfl (lv_at hl 1 rfl) ?_
        refine fg_RX1_21 E hW rh0 dX1_isHeldBy_11 (fun a1376608 m1376609 r1376610 => ?_)
        refine lv_iload_n hx hb dX1_isHeldBy_14 rfl (lv_at hl 0 rfl) ?_
        refine gl_164 E hW r1376610 ⟨by omega, by omega⟩ dX1_isHeldBy_15 (fun y1376611 m1376612 b1376613 => ?_)
        refine lv_iload_n hx hb dX1_isHeldBy_16 rfl (lv_at hl 2 rfl) ?_
        refine q_icmp_ne (tgt := 22) hx hb dX1_isHeldBy_17 (by decide) rfl rfl (fun c1376614 => ?_) (fun c1376614 => ?_)
        · refine q_iinc hx hb dX1_isHeldBy_22 hl (k := 0) rfl rfl rfl (by omega) (by decide) (fun i1376615 ls h1376616 hl => ?_)
          have hl : lv_has ls 3 [(2, .int i1376615), (0, .ref h0), (1, .int u1)] := hl
          refine lv_goto (tgt := 2) hx hb dX1_isHeldBy_25 (by decide) ?_
          exact ih2 i1376615 (by omega) (by omega) _ _ _ hW hF (lv_sub hl [0, 1, 2] rfl)
        · refine lv_iconst (v := 1) hx hb dX1_isHeldBy_20 (by decide) ?_
          exact e_Z E hW rfl (by decide) ⟨⟨_, rfl, (by have hk : (1 : Int32).toInt = 1 := rfl; first | decide | omega)⟩, hF⟩ dX1_isHeldBy_21
  have hk1376617 : (0 : Int32).toInt = 0 := rfl
  exact L1376603 41 0 (by decide) (by omega) _ _ _ hW hF (lv_sub hl [0, 1, 2] rfl)
def ms_X1_keepSums : List (Nat × Nat) := [(1, 12), (1, 13), (1, 14)]
def po_X1_keepSums (kp : Nat → Nat) (L : List Nat) (f0 : Nat → va_E) (h0 : Nat) : Option Value → (Nat → va_E) → Prop := fun v f => v = none ∧ FM kp L ms_X1_keepSums f0 f
set_option maxHeartbeats 4000000 in
set_option maxRecDepth 100000 in
theorem c_X1_keepSums (l : Launch) (G : va_G) (cI cJ cZ cD cR cT : ClassId) (kp : Nat → Nat) (L : List Nat) (f0 : Nat → va_E) (hTH : TH cI cJ cZ cD cR cT kp L f0) (sz : Nat) (h0 : Nat) (rh0 : RK kp L h0 1) : Met l yX1_keepSums (Cond.code yX1_keepSums cX1_keepSums 1 none :: wTab) ({ frames := 2, cells := 0, slots := 0, locals := 63 }) (va_Pc [.ref h0] (PreW G (tys6 cI cJ cZ cD cR cT) (va_pl L f0) sz)) (QT (po_X1_keepSums kp L f0 h0) G cI cJ cZ cD cR cT (va_A (va_pl L f0) sz) kp L) 0 0 (va_A (va_pl L f0) sz) := by
  refine metT (by decide) (Nat.le_of_ble_eq_true rfl) hTH ?_
  intro p e s m below meth c A ls E hW hl
  obtain ⟨hx, hb, -, hml, hown, hts, -, -, -⟩ := id E
  have hF : FM kp L ms_X1_keepSums f0 f0 := FM.rf
  have hl : lv_has ls 1 [(0, .ref h0)] := hl
  refine lv_aload_n hx hb dX1_keepSums_0 rfl (lv_at hl 0 rfl) ?_
  refine lv_aload_n hx hb dX1_keepSums_1 rfl (lv_at hl 0 rfl) ?_
  refine fg_RX1_46 E hW rh0 dX1_keepSums_2 (fun y1376618 m1376619 b1376620 => ?_)
  refine fp_RX1_42 E hW rh0 dX1_keepSums_5 (fun f1376621 H locs e1376622 n1376623 g1376624 hW => ?_)
  have hF := FM.tr hF g1376624 rfl
  refine lv_aload_n hx hb dX1_keepSums_8 rfl (lv_at hl 0 rfl) ?_
  refine lv_aload_n hx hb dX1_keepSums_9 rfl (lv_at hl 0 rfl) ?_
  refine t_callV (As := []) (rest := [.ref h0]) E hW (c_X1_sumOfRents l G cI cJ cZ cD cR cT kp L f1376621 hW.2.2.2 _ h0 rh0) rh0 (by decide) rfl wk_X1_sumOfRents tw_1348 rfl ⟨Nat.le_of_ble_eq_true rfl, Nat.le_of_ble_eq_true rfl⟩ ⟨rfl, rfl⟩ hl.1 rfl (Nat.le_of_ble_eq_true rfl) dX1_keepSums_10 ⟨Nat.le_of_ble_eq_true rfl, Nat.le_of_ble_eq_true rfl⟩ (fun v1376625 f1376626 H locs q1376627 hW => ?_)
  obtain ⟨⟨x1376629, rfl, p1376630⟩, g1376628⟩ := q1376627
  clear p1376630
  have hF := FM.tr hF g1376628 rfl
  refine fp_RX1_62 E hW rh0 dX1_keepSums_13 (fun f1376631 H locs e1376632 n1376633 g1376634 hW => ?_)
  have hF := FM.tr hF g1376634 rfl
  refine lv_aload_n hx hb dX1_keepSums_16 rfl (lv_at hl 0 rfl) ?_
  refine lv_aload_n hx hb dX1_keepSums_17 rfl (lv_at hl 0 rfl) ?_
  refine t_callV (As := []) (rest := [.ref h0]) E hW (c_X1_sumByPlace l G cI cJ cZ cD cR cT kp L f1376631 hW.2.2.2 _ h0 rh0) rh0 (by decide) rfl wk_X1_sumByPlace tw_1352 rfl ⟨Nat.le_of_ble_eq_true rfl, Nat.le_of_ble_eq_true rfl⟩ ⟨rfl, rfl⟩ hl.1 rfl (Nat.le_of_ble_eq_true rfl) dX1_keepSums_18 ⟨Nat.le_of_ble_eq_true rfl, Nat.le_of_ble_eq_true rfl⟩ (fun v1376635 f1376636 H locs q1376637 hW => ?_)
  obtain ⟨⟨x1376639, rfl, p1376640⟩, g1376638⟩ := q1376637
  clear p1376640
  have hF := FM.tr hF g1376638 rfl
  refine fp_RX1_69 E hW rh0 dX1_keepSums_21 (fun f1376641 H locs e1376642 n1376643 g1376644 hW => ?_)
  have hF := FM.tr hF g1376644 rfl
  exact e_V E hW rfl ⟨rfl, hF⟩ dX1_keepSums_24
def ms_X1_rentOf : List (Nat × Nat) := []
def po_X1_rentOf (kp : Nat → Nat) (L : List Nat) (f0 : Nat → va_E) (h0 : Nat) (u1 : Int32) : Option Value → (Nat → va_E) → Prop := fun v f => (∃ r : Int32, v = some (.int r) ∧ ((0 : Int) ≤ r.toInt)) ∧ FM kp L ms_X1_rentOf f0 f
set_option maxHeartbeats 4000000 in
set_option maxRecDepth 100000 in
theorem c_X1_rentOf (l : Launch) (G : va_G) (cI cJ cZ cD cR cT : ClassId) (kp : Nat → Nat) (L : List Nat) (f0 : Nat → va_E) (hTH : TH cI cJ cZ cD cR cT kp L f0) (sz : Nat) (h0 : Nat) (u1 : Int32) (rh0 : RK kp L h0 1) (pu1 : (0 : Int) ≤ u1.toInt ∧ u1.toInt ≤ 39) : Met l yX1_rentOf (Cond.code yX1_rentOf cX1_rentOf 2 (some .int) :: wTab) ({ frames := 1, cells := 0, slots := 0, locals := 60 }) (va_Pc [.ref h0, .int u1] (PreW G (tys6 cI cJ cZ cD cR cT) (va_pl L f0) sz)) (QT (po_X1_rentOf kp L f0 h0 u1) G cI cJ cZ cD cR cT (va_A (va_pl L f0) sz) kp L) 0 0 (va_A (va_pl L f0) sz) := by
  refine metT (by decide) (Nat.le_of_ble_eq_true rfl) hTH ?_
  intro p e s m below meth c A ls E hW hl
  obtain ⟨hx, hb, -, hml, hown, hts, -, -, -⟩ := id E
  have hF : FM kp L ms_X1_rentOf f0 f0 := FM.rf
  have hl : lv_has ls 2 [(0, .ref h0), (1, .int u1)] := hl
  refine lv_aload_n hx hb dX1_rentOf_0 rfl (lv_at hl 0 rfl) ?_
  refine fg_RX1_18 E hW rh0 dX1_rentOf_1 (fun a1376645 m1376646 r1376647 => ?_)
  refine lv_iload_n hx hb dX1_rentOf_4 rfl (lv_at hl 1 rfl) ?_
  refine gl_163 E hW r1376647 ⟨by omega, by omega⟩ dX1_rentOf_5 (fun y1376648 m1376649 => ?_)
  refine lv_iconst (v := 0) hx hb dX1_rentOf_6 (by decide) ?_
  refine t_max (Y := 0) (own := RX1) E tw_713 ⟨tw_714, tw_115, tw_715⟩ hl.1 ⟨Nat.le_of_ble_eq_true rfl, Nat.le_of_ble_eq_true rfl⟩ ⟨Nat.le_of_ble_eq_true rfl, Nat.le_of_ble_eq_true rfl⟩ rfl rfl dX1_rentOf_7 (fun x1376651 h1376652 => ?_)
  exact e_I E hW rfl ⟨⟨_, rfl, (by first | omega | trivial)⟩, hF⟩ dX1_rentOf_10
def ms_X10_add : List (Nat × Nat) := [(10, 0), (701, 0), (702, 0), (703, 0), (704, 0), (705, 0), (706, 0)]
def po_X10_add (kp : Nat → Nat) (L : List Nat) (f0 : Nat → va_E) (h0 : Nat) (u1 : Int32) (u2 : Int32) (u3 : Int32) (u4 : Int32) : Option Value → (Nat → va_E) → Prop := fun v f => v = none ∧ FM kp L ms_X10_add f0 f
set_option maxHeartbeats 4000000 in
set_option maxRecDepth 100000 in
theorem c_X10_add (l : Launch) (G : va_G) (cI cJ cZ cD cR cT : ClassId) (kp : Nat → Nat) (L : List Nat) (f0 : Nat → va_E) (hTH : TH cI cJ cZ cD cR cT kp L f0) (sz : Nat) (h0 : Nat) (u1 : Int32) (u2 : Int32) (u3 : Int32) (u4 : Int32) (rh0 : RK kp L h0 10) (pu1 : (0 : Int) ≤ u1.toInt ∧ u1.toInt ≤ 39) (pu2 : (0 : Int) ≤ u2.toInt ∧ u2.toInt ≤ 39) (pu4 : (0 : Int) ≤ u4.toInt ∧ u4.toInt ≤ 399) : Met l yX10_add (Cond.code yX10_add cX10_add 5 none :: wTab) ({ frames := 1, cells := 0, slots := 0, locals := 40 }) (va_Pc [.ref h0, .int u1, .int u2, .int u3, .int u4] (PreW G (tys6 cI cJ cZ cD cR cT) (va_pl L f0) sz)) (QT (po_X10_add kp L f0 h0 u1 u2 u3 u4) G cI cJ cZ cD cR cT (va_A (va_pl L f0) sz) kp L) 0 0 (va_A (va_pl L f0) sz) := by
  refine metT (by decide) (Nat.le_of_ble_eq_true rfl) hTH ?_
  intro p e s m below meth c A ls E hW hl
  obtain ⟨hx, hb, -, hml, hown, hts, -, -, -⟩ := id E
  have hF : FM kp L ms_X10_add f0 f0 := FM.rf
  have hl : lv_has ls 5 [(0, .ref h0), (1, .int u1), (2, .int u2), (3, .int u3), (4, .int u4)] := hl
  refine lv_aload_n hx hb dX10_add_0 rfl (lv_at hl 0 rfl) ?_
  refine fg_RX10_39 E hW rh0 dX10_add_1 (fun y1376653 m1376654 b1376655 => ?_)
  refine lv_bipush (v := 60) hx hb dX10_add_4 (by decide) ?_
  refine q_icmp_lt (Y := 60) (tgt := 10) hx hb dX10_add_6 (by decide) rfl rfl (fun c1376656 => ?_) (fun c1376656 => ?_)
  · refine lv_aload_n hx hb dX10_add_10 rfl (lv_at hl 0 rfl) ?_
    refine fg_RX10_9 E hW rh0 dX10_add_11 (fun a1376657 m1376658 r1376659 => ?_)
    refine lv_aload_n hx hb dX10_add_14 rfl (lv_at hl 0 rfl) ?_
    refine fg_RX10_39 E hW rh0 dX10_add_15 (fun y1376660 m1376661 b1376662 => ?_)
    obtain rfl : y1376653 = y1376660 := (m1376654).symm.trans m1376661
    refine lv_iload_n hx hb dX10_add_18 rfl (lv_at hl 1 rfl) ?_
    refine gs_701 E hW r1376659 ⟨by omega, by omega⟩ (by omega) dX10_add_19 (fun f1376663 H locs e1376664 n1376665 g1376666 hW => ?_)
    have hF := FM.tr hF g1376666 rfl
    refine lv_aload_n hx hb dX10_add_20 rfl (lv_at hl 0 rfl) ?_
    refine fg_RX10_15 E hW rh0 dX10_add_21 (fun a1376667 m1376668 r1376669 => ?_)
    refine lv_aload_n hx hb dX10_add_24 rfl (lv_at hl 0 rfl) ?_
    refine fg_RX10_39 E hW rh0 dX10_add_25 (fun y1376670 m1376671 b1376672 => ?_)
    obtain rfl : y1376653 = y1376670 := (((fm_I g1376666 rh0 rfl).trans m1376661)).symm.trans m1376671
    refine lv_iload_n hx hb dX10_add_28 rfl (lv_at hl 2 rfl) ?_
    refine gs_702 E hW r1376669 ⟨by omega, by omega⟩ (by omega) dX10_add_29 (fun f1376673 H locs e1376674 n1376675 g1376676 hW => ?_)
    have hF := FM.tr hF g1376676 rfl
    refine lv_aload_n hx hb dX10_add_30 rfl (lv_at hl 0 rfl) ?_
    refine fg_RX10_18 E hW rh0 dX10_add_31 (fun a1376677 m1376678 r1376679 => ?_)
    refine lv_aload_n hx hb dX10_add_34 rfl (lv_at hl 0 rfl) ?_
    refine fg_RX10_39 E hW rh0 dX10_add_35 (fun y1376680 m1376681 b1376682 => ?_)
    obtain rfl : y1376653 = y1376680 := (((fm_I g1376676 rh0 rfl).trans m1376671)).symm.trans m1376681
    refine lv_iconst (v := 0) hx hb dX10_add_38 (by decide) ?_
    refine gs_703 E hW r1376679 ⟨by omega, by omega⟩ dX10_add_39 (fun f1376683 H locs e1376684 n1376685 g1376686 hW => ?_)
    have hF := FM.tr hF g1376686 rfl
    refine lv_aload_n hx hb dX10_add_40 rfl (lv_at hl 0 rfl) ?_
    refine fg_RX10_21 E hW rh0 dX10_add_41 (fun a1376687 m1376688 r1376689 => ?_)
    refine lv_aload_n hx hb dX10_add_44 rfl (lv_at hl 0 rfl) ?_
    refine fg_RX10_39 E hW rh0 dX10_add_45 (fun y1376690 m1376691 b1376692 => ?_)
    obtain rfl : y1376653 = y1376690 := (((fm_I g1376686 rh0 rfl).trans m1376681)).symm.trans m1376691
    refine lv_iload_n hx hb dX10_add_48 rfl (lv_at hl 3 rfl) ?_
    refine gs_704 E hW r1376689 ⟨by omega, by omega⟩ dX10_add_49 (fun f1376693 H locs e1376694 n1376695 g1376696 hW => ?_)
    have hF := FM.tr hF g1376696 rfl
    refine lv_aload_n hx hb dX10_add_50 rfl (lv_at hl 0 rfl) ?_
    refine fg_RX10_24 E hW rh0 dX10_add_51 (fun a1376697 m1376698 r1376699 => ?_)
    refine lv_aload_n hx hb dX10_add_54 rfl (lv_at hl 0 rfl) ?_
    refine fg_RX10_39 E hW rh0 dX10_add_55 (fun y1376700 m1376701 b1376702 => ?_)
    obtain rfl : y1376653 = y1376700 := (((fm_I g1376696 rh0 rfl).trans m1376691)).symm.trans m1376701
    refine lv_iload hx hb dX10_add_58 (lv_at hl 4 rfl) ?_
    refine gs_705 E hW r1376699 ⟨by omega, by omega⟩ dX10_add_60 (fun f1376703 H locs e1376704 n1376705 g1376706 hW => ?_)
    have hF := FM.tr hF g1376706 rfl
    refine lv_aload_n hx hb dX10_add_61 rfl (lv_at hl 0 rfl) ?_
    refine fg_RX10_27 E hW rh0 dX10_add_62 (fun a1376707 m1376708 r1376709 => ?_)
    refine lv_aload_n hx hb dX10_add_65 rfl (lv_at hl 0 rfl) ?_
    refine fg_RX10_39 E hW rh0 dX10_add_66 (fun y1376710 m1376711 b1376712 => ?_)
    obtain rfl : y1376653 = y1376710 := (((fm_I g1376706 rh0 rfl).trans m1376701)).symm.trans m1376711
    refine lv_iconst (v := 1) hx hb dX10_add_69 (by decide) ?_
    refine gs_706 E hW r1376709 ⟨by omega, by omega⟩ dX10_add_70 (fun f1376713 H locs e1376714 n1376715 g1376716 hW => ?_)
    have hF := FM.tr hF g1376716 rfl
    refine lv_aload_n hx hb dX10_add_71 rfl (lv_at hl 0 rfl) ?_
    refine lv_dup hx hb dX10_add_72 rfl ?_
    refine fg_RX10_39 E hW rh0 dX10_add_73 (fun y1376717 m1376718 b1376719 => ?_)
    obtain rfl : y1376653 = y1376717 := (((fm_I g1376716 rh0 rfl).trans m1376711)).symm.trans m1376718
    refine lv_iconst (v := 1) hx hb dX10_add_76 (by decide) ?_
    refine q_iadd (Y := 1) hx hb dX10_add_77 rfl rfl (by omega) (fun x1376720 h1376721 => ?_)
    refine fp_RX10_39 E hW rh0 (by omega) dX10_add_78 (fun f1376722 H locs e1376723 n1376724 g1376725 hW => ?_)
    have hF := FM.tr hF g1376725 rfl
    exact e_V E hW rfl ⟨rfl, hF⟩ dX10_add_81
  · exact e_V E hW rfl ⟨rfl, hF⟩ dX10_add_9
def ms_X10_addGuard : List (Nat × Nat) := [(10, 7), (708, 0), (709, 0), (710, 0)]
def po_X10_addGuard (kp : Nat → Nat) (L : List Nat) (f0 : Nat → va_E) (h0 : Nat) (u1 : Int32) (u2 : Int32) (u3 : Int32) : Option Value → (Nat → va_E) → Prop := fun v f => v = none ∧ FM kp L ms_X10_addGuard f0 f
set_option maxHeartbeats 4000000 in
set_option maxRecDepth 100000 in
theorem c_X10_addGuard (l : Launch) (G : va_G) (cI cJ cZ cD cR cT : ClassId) (kp : Nat → Nat) (L : List Nat) (f0 : Nat → va_E) (hTH : TH cI cJ cZ cD cR cT kp L f0) (sz : Nat) (h0 : Nat) (u1 : Int32) (u2 : Int32) (u3 : Int32) (rh0 : RK kp L h0 10) (pu1 : (0 : Int) ≤ u1.toInt ∧ u1.toInt ≤ 39) (pu2 : (0 : Int) ≤ u2.toInt ∧ u2.toInt ≤ 399) (pu3 : (0 : Int) ≤ u3.toInt ∧ u3.toInt ≤ 399) : Met l yX10_addGuard (Cond.code yX10_addGuard cX10_addGuard 4 none :: wTab) ({ frames := 1, cells := 0, slots := 0, locals := 40 }) (va_Pc [.ref h0, .int u1, .int u2, .int u3] (PreW G (tys6 cI cJ cZ cD cR cT) (va_pl L f0) sz)) (QT (po_X10_addGuard kp L f0 h0 u1 u2 u3) G cI cJ cZ cD cR cT (va_A (va_pl L f0) sz) kp L) 0 0 (va_A (va_pl L f0) sz) := by
  refine metT (by decide) (Nat.le_of_ble_eq_true rfl) hTH ?_
  intro p e s m below meth c A ls E hW hl
  obtain ⟨hx, hb, -, hml, hown, hts, -, -, -⟩ := id E
  have hF : FM kp L ms_X10_addGuard f0 f0 := FM.rf
  have hl : lv_has ls 4 [(0, .ref h0), (1, .int u1), (2, .int u2), (3, .int u3)] := hl
  refine lv_aload_n hx hb dX10_addGuard_0 rfl (lv_at hl 0 rfl) ?_
  refine fg_RX10_43 E hW rh0 dX10_addGuard_1 (fun y1376726 m1376727 b1376728 => ?_)
  refine lv_bipush (v := 40) hx hb dX10_addGuard_4 (by decide) ?_
  refine q_icmp_lt (Y := 40) (tgt := 10) hx hb dX10_addGuard_6 (by decide) rfl rfl (fun c1376729 => ?_) (fun c1376729 => ?_)
  · refine lv_aload_n hx hb dX10_addGuard_10 rfl (lv_at hl 0 rfl) ?_
    refine fg_RX10_30 E hW rh0 dX10_addGuard_11 (fun a1376730 m1376731 r1376732 => ?_)
    refine lv_aload_n hx hb dX10_addGuard_14 rfl (lv_at hl 0 rfl) ?_
    refine fg_RX10_43 E hW rh0 dX10_addGuard_15 (fun y1376733 m1376734 b1376735 => ?_)
    obtain rfl : y1376726 = y1376733 := (m1376727).symm.trans m1376734
    refine lv_iload_n hx hb dX10_addGuard_18 rfl (lv_at hl 1 rfl) ?_
    refine gs_708 E hW r1376732 ⟨by omega, by omega⟩ dX10_addGuard_19 (fun f1376736 H locs e1376737 n1376738 g1376739 hW => ?_)
    have hF := FM.tr hF g1376739 rfl
    refine lv_aload_n hx hb dX10_addGuard_20 rfl (lv_at hl 0 rfl) ?_
    refine fg_RX10_33 E hW rh0 dX10_addGuard_21 (fun a1376740 m1376741 r1376742 => ?_)
    refine lv_aload_n hx hb dX10_addGuard_24 rfl (lv_at hl 0 rfl) ?_
    refine fg_RX10_43 E hW rh0 dX10_addGuard_25 (fun y1376743 m1376744 b1376745 => ?_)
    obtain rfl : y1376726 = y1376743 := (((fm_I g1376739 rh0 rfl).trans m1376734)).symm.trans m1376744
    refine lv_iload_n hx hb dX10_addGuard_28 rfl (lv_at hl 2 rfl) ?_
    refine gs_709 E hW r1376742 ⟨by omega, by omega⟩ dX10_addGuard_29 (fun f1376746 H locs e1376747 n1376748 g1376749 hW => ?_)
    have hF := FM.tr hF g1376749 rfl
    refine lv_aload_n hx hb dX10_addGuard_30 rfl (lv_at hl 0 rfl) ?_
    refine fg_RX10_36 E hW rh0 dX10_addGuard_31 (fun a1376750 m1376751 r1376752 => ?_)
    refine lv_aload_n hx hb dX10_addGuard_34 rfl (lv_at hl 0 rfl) ?_
    refine fg_RX10_43 E hW rh0 dX10_addGuard_35 (fun y1376753 m1376754 b1376755 => ?_)
    obtain rfl : y1376726 = y1376753 := (((fm_I g1376749 rh0 rfl).trans m1376744)).symm.trans m1376754
    refine lv_iload_n hx hb dX10_addGuard_38 rfl (lv_at hl 3 rfl) ?_
    refine gs_710 E hW r1376752 ⟨by omega, by omega⟩ dX10_addGuard_39 (fun f1376756 H locs e1376757 n1376758 g1376759 hW => ?_)
    have hF := FM.tr hF g1376759 rfl
    refine lv_aload_n hx hb dX10_addGuard_40 rfl (lv_at hl 0 rfl) ?_
    refine lv_dup hx hb dX10_addGuard_41 rfl ?_
    refine fg_RX10_43 E hW rh0 dX10_addGuard_42 (fun y1376760 m1376761 b1376762 => ?_)
    obtain rfl : y1376726 = y1376760 := (((fm_I g1376759 rh0 rfl).trans m1376754)).symm.trans m1376761
    refine lv_iconst (v := 1) hx hb dX10_addGuard_45 (by decide) ?_
    refine q_iadd (Y := 1) hx hb dX10_addGuard_46 rfl rfl (by omega) (fun x1376763 h1376764 => ?_)
    refine fp_RX10_43 E hW rh0 (by omega) dX10_addGuard_47 (fun f1376765 H locs e1376766 n1376767 g1376768 hW => ?_)
    have hF := FM.tr hF g1376768 rfl
    exact e_V E hW rfl ⟨rfl, hF⟩ dX10_addGuard_50
  · exact e_V E hW rfl ⟨rfl, hF⟩ dX10_addGuard_9
def ms_X10_copyFrom : List (Nat × Nat) := [(10, 0), (10, 7), (701, 0), (702, 0), (703, 0), (704, 0), (705, 0), (706, 0), (708, 0), (709, 0), (710, 0)]
def po_X10_copyFrom (kp : Nat → Nat) (L : List Nat) (f0 : Nat → va_E) (h0 : Nat) (u1 : Nat) : Option Value → (Nat → va_E) → Prop := fun v f => v = none ∧ FM kp L ms_X10_copyFrom f0 f
set_option maxHeartbeats 4000000 in
set_option maxRecDepth 100000 in
theorem c_X10_copyFrom (l : Launch) (G : va_G) (cI cJ cZ cD cR cT : ClassId) (kp : Nat → Nat) (L : List Nat) (f0 : Nat → va_E) (hTH : TH cI cJ cZ cD cR cT kp L f0) (sz : Nat) (h0 : Nat) (u1 : Nat) (rh0 : RK kp L h0 10) (ru1 : RK kp L u1 10) : Met l yX10_copyFrom (Cond.code yX10_copyFrom cX10_copyFrom 2 none :: wTab) ({ frames := 1, cells := 0, slots := 0, locals := 60 }) (va_Pc [.ref h0, .ref u1] (PreW G (tys6 cI cJ cZ cD cR cT) (va_pl L f0) sz)) (QT (po_X10_copyFrom kp L f0 h0 u1) G cI cJ cZ cD cR cT (va_A (va_pl L f0) sz) kp L) 0 0 (va_A (va_pl L f0) sz) := by
  refine metT (by decide) (Nat.le_of_ble_eq_true rfl) hTH ?_
  intro p e s m below meth c A ls E hW hl
  obtain ⟨hx, hb, -, hml, hown, hts, -, -, -⟩ := id E
  have hF : FM kp L ms_X10_copyFrom f0 f0 := FM.rf
  have hl : lv_has ls 2 [(0, .ref h0), (1, .ref u1)] := hl
  refine lv_aload_n hx hb dX10_copyFrom_0 rfl (lv_at hl 0 rfl) ?_
  refine lv_aload_n hx hb dX10_copyFrom_1 rfl (lv_at hl 1 rfl) ?_
  refine fg_RX10_39 E hW ru1 dX10_copyFrom_2 (fun y1376769 m1376770 b1376771 => ?_)
  refine fp_RX10_39 E hW rh0 (by omega) dX10_copyFrom_5 (fun f1376772 H locs e1376773 n1376774 g1376775 hW => ?_)
  have hF := FM.tr hF g1376775 rfl
  refine lv_aload_n hx hb dX10_copyFrom_8 rfl (lv_at hl 1 rfl) ?_
  refine fg_RX10_9 E hW ru1 dX10_copyFrom_9 (fun a1376776 m1376777 r1376778 => ?_)
  refine lv_iconst (v := 0) hx hb dX10_copyFrom_12 (by decide) ?_
  refine lv_aload_n hx hb dX10_copyFrom_13 rfl (lv_at hl 0 rfl) ?_
  refine fg_RX10_9 E hW rh0 dX10_copyFrom_14 (fun a1376779 m1376780 r1376781 => ?_)
  refine lv_iconst (v := 0) hx hb dX10_copyFrom_17 (by decide) ?_
  refine lv_bipush (v := 60) hx hb dX10_copyFrom_18 (by decide) ?_
  refine t_copy (N := 60) (n0 := 60) (n1 := 60) E hW tw_1303 ⟨tw_1004, tw_1003, tw_122⟩ hl.1 rfl r1376778 (by decide) rfl r1376781 (by decide) rfl rfl (by decide) rfl (by decide) (by decide) (by decide) (fun h0 h1 => AB_cpy h0 h1) ⟨Nat.le_of_ble_eq_true rfl, Nat.le_of_ble_eq_true rfl⟩ dX10_copyFrom_20 (fun f1376782 H locs n1376784 g1376785 hW => ?_)
  have hF := FM.tr hF g1376785 rfl
  refine lv_aload_n hx hb dX10_copyFrom_23 rfl (lv_at hl 1 rfl) ?_
  refine fg_RX10_15 E hW ru1 dX10_copyFrom_24 (fun a1376786 m1376787 r1376788 => ?_)
  refine lv_iconst (v := 0) hx hb dX10_copyFrom_27 (by decide) ?_
  refine lv_aload_n hx hb dX10_copyFrom_28 rfl (lv_at hl 0 rfl) ?_
  refine fg_RX10_15 E hW rh0 dX10_copyFrom_29 (fun a1376789 m1376790 r1376791 => ?_)
  refine lv_iconst (v := 0) hx hb dX10_copyFrom_32 (by decide) ?_
  refine lv_bipush (v := 60) hx hb dX10_copyFrom_33 (by decide) ?_
  refine t_copy (N := 60) (n0 := 60) (n1 := 60) E hW tw_1303 ⟨tw_1004, tw_1003, tw_122⟩ hl.1 rfl r1376788 (by decide) rfl r1376791 (by decide) rfl rfl (by decide) rfl (by decide) (by decide) (by decide) (fun h0 h1 => AB_cpy h0 h1) ⟨Nat.le_of_ble_eq_true rfl, Nat.le_of_ble_eq_true rfl⟩ dX10_copyFrom_35 (fun f1376792 H locs n1376794 g1376795 hW => ?_)
  have hF := FM.tr hF g1376795 rfl
  refine lv_aload_n hx hb dX10_copyFrom_38 rfl (lv_at hl 1 rfl) ?_
  refine fg_RX10_18 E hW ru1 dX10_copyFrom_39 (fun a1376796 m1376797 r1376798 => ?_)
  refine lv_iconst (v := 0) hx hb dX10_copyFrom_42 (by decide) ?_
  refine lv_aload_n hx hb dX10_copyFrom_43 rfl (lv_at hl 0 rfl) ?_
  refine fg_RX10_18 E hW rh0 dX10_copyFrom_44 (fun a1376799 m1376800 r1376801 => ?_)
  refine lv_iconst (v := 0) hx hb dX10_copyFrom_47 (by decide) ?_
  refine lv_bipush (v := 60) hx hb dX10_copyFrom_48 (by decide) ?_
  refine t_copy (N := 60) (n0 := 60) (n1 := 60) E hW tw_1303 ⟨tw_1004, tw_1003, tw_122⟩ hl.1 rfl r1376798 (by decide) rfl r1376801 (by decide) rfl rfl (by decide) rfl (by decide) (by decide) (by decide) (fun _ _ => trivial) ⟨Nat.le_of_ble_eq_true rfl, Nat.le_of_ble_eq_true rfl⟩ dX10_copyFrom_50 (fun f1376802 H locs n1376804 g1376805 hW => ?_)
  have hF := FM.tr hF g1376805 rfl
  refine lv_aload_n hx hb dX10_copyFrom_53 rfl (lv_at hl 1 rfl) ?_
  refine fg_RX10_21 E hW ru1 dX10_copyFrom_54 (fun a1376806 m1376807 r1376808 => ?_)
  refine lv_iconst (v := 0) hx hb dX10_copyFrom_57 (by decide) ?_
  refine lv_aload_n hx hb dX10_copyFrom_58 rfl (lv_at hl 0 rfl) ?_
  refine fg_RX10_21 E hW rh0 dX10_copyFrom_59 (fun a1376809 m1376810 r1376811 => ?_)
  refine lv_iconst (v := 0) hx hb dX10_copyFrom_62 (by decide) ?_
  refine lv_bipush (v := 60) hx hb dX10_copyFrom_63 (by decide) ?_
  refine t_copy (N := 60) (n0 := 60) (n1 := 60) E hW tw_1303 ⟨tw_1004, tw_1003, tw_122⟩ hl.1 rfl r1376808 (by decide) rfl r1376811 (by decide) rfl rfl (by decide) rfl (by decide) (by decide) (by decide) (fun _ _ => trivial) ⟨Nat.le_of_ble_eq_true rfl, Nat.le_of_ble_eq_true rfl⟩ dX10_copyFrom_65 (fun f1376812 H locs n1376814 g1376815 hW => ?_)
  have hF := FM.tr hF g1376815 rfl
  refine lv_aload_n hx hb dX10_copyFrom_68 rfl (lv_at hl 1 rfl) ?_
  refine fg_RX10_24 E hW ru1 dX10_copyFrom_69 (fun a1376816 m1376817 r1376818 => ?_)
  refine lv_iconst (v := 0) hx hb dX10_copyFrom_72 (by decide) ?_
  refine lv_aload_n hx hb dX10_copyFrom_73 rfl (lv_at hl 0 rfl) ?_
  refine fg_RX10_24 E hW rh0 dX10_copyFrom_74 (fun a1376819 m1376820 r1376821 => ?_)
  refine lv_iconst (v := 0) hx hb dX10_copyFrom_77 (by decide) ?_
  refine lv_bipush (v := 60) hx hb dX10_copyFrom_78 (by decide) ?_
  refine t_copy (N := 60) (n0 := 60) (n1 := 60) E hW tw_1303 ⟨tw_1004, tw_1003, tw_122⟩ hl.1 rfl r1376818 (by decide) rfl r1376821 (by decide) rfl rfl (by decide) rfl (by decide) (by decide) (by decide) (fun _ _ => trivial) ⟨Nat.le_of_ble_eq_true rfl, Nat.le_of_ble_eq_true rfl⟩ dX10_copyFrom_80 (fun f1376822 H locs n1376824 g1376825 hW => ?_)
  have hF := FM.tr hF g1376825 rfl
  refine lv_aload_n hx hb dX10_copyFrom_83 rfl (lv_at hl 1 rfl) ?_
  refine fg_RX10_27 E hW ru1 dX10_copyFrom_84 (fun a1376826 m1376827 r1376828 => ?_)
  refine lv_iconst (v := 0) hx hb dX10_copyFrom_87 (by decide) ?_
  refine lv_aload_n hx hb dX10_copyFrom_88 rfl (lv_at hl 0 rfl) ?_
  refine fg_RX10_27 E hW rh0 dX10_copyFrom_89 (fun a1376829 m1376830 r1376831 => ?_)
  refine lv_iconst (v := 0) hx hb dX10_copyFrom_92 (by decide) ?_
  refine lv_bipush (v := 60) hx hb dX10_copyFrom_93 (by decide) ?_
  refine t_copy (N := 60) (n0 := 60) (n1 := 60) E hW tw_1303 ⟨tw_1004, tw_1003, tw_122⟩ hl.1 rfl r1376828 (by decide) rfl r1376831 (by decide) rfl rfl (by decide) rfl (by decide) (by decide) (by decide) (fun _ _ => trivial) ⟨Nat.le_of_ble_eq_true rfl, Nat.le_of_ble_eq_true rfl⟩ dX10_copyFrom_95 (fun f1376832 H locs n1376834 g1376835 hW => ?_)
  have hF := FM.tr hF g1376835 rfl
  refine lv_aload_n hx hb dX10_copyFrom_98 rfl (lv_at hl 0 rfl) ?_
  refine lv_aload_n hx hb dX10_copyFrom_99 rfl (lv_at hl 1 rfl) ?_
  refine fg_RX10_43 E hW ru1 dX10_copyFrom_100 (fun y1376836 m1376837 b1376838 => ?_)
  refine fp_RX10_43 E hW rh0 (by omega) dX10_copyFrom_103 (fun f1376839 H locs e1376840 n1376841 g1376842 hW => ?_)
  have hF := FM.tr hF g1376842 rfl
  refine lv_aload_n hx hb dX10_copyFrom_106 rfl (lv_at hl 1 rfl) ?_
  refine fg_RX10_30 E hW ru1 dX10_copyFrom_107 (fun a1376843 m1376844 r1376845 => ?_)
  refine lv_iconst (v := 0) hx hb dX10_copyFrom_110 (by decide) ?_
  refine lv_aload_n hx hb dX10_copyFrom_111 rfl (lv_at hl 0 rfl) ?_
  refine fg_RX10_30 E hW rh0 dX10_copyFrom_112 (fun a1376846 m1376847 r1376848 => ?_)
  refine lv_iconst (v := 0) hx hb dX10_copyFrom_115 (by decide) ?_
  refine lv_bipush (v := 40) hx hb dX10_copyFrom_116 (by decide) ?_
  refine t_copy (N := 40) (n0 := 40) (n1 := 40) E hW tw_1303 ⟨tw_1004, tw_1003, tw_122⟩ hl.1 rfl r1376845 (by decide) rfl r1376848 (by decide) rfl rfl (by decide) rfl (by decide) (by decide) (by decide) (fun _ _ => trivial) ⟨Nat.le_of_ble_eq_true rfl, Nat.le_of_ble_eq_true rfl⟩ dX10_copyFrom_118 (fun f1376849 H locs n1376851 g1376852 hW => ?_)
  have hF := FM.tr hF g1376852 rfl
  refine lv_aload_n hx hb dX10_copyFrom_121 rfl (lv_at hl 1 rfl) ?_
  refine fg_RX10_33 E hW ru1 dX10_copyFrom_122 (fun a1376853 m1376854 r1376855 => ?_)
  refine lv_iconst (v := 0) hx hb dX10_copyFrom_125 (by decide) ?_
  refine lv_aload_n hx hb dX10_copyFrom_126 rfl (lv_at hl 0 rfl) ?_
  refine fg_RX10_33 E hW rh0 dX10_copyFrom_127 (fun a1376856 m1376857 r1376858 => ?_)
  refine lv_iconst (v := 0) hx hb dX10_copyFrom_130 (by decide) ?_
  refine lv_bipush (v := 40) hx hb dX10_copyFrom_131 (by decide) ?_
  refine t_copy (N := 40) (n0 := 40) (n1 := 40) E hW tw_1303 ⟨tw_1004, tw_1003, tw_122⟩ hl.1 rfl r1376855 (by decide) rfl r1376858 (by decide) rfl rfl (by decide) rfl (by decide) (by decide) (by decide) (fun _ _ => trivial) ⟨Nat.le_of_ble_eq_true rfl, Nat.le_of_ble_eq_true rfl⟩ dX10_copyFrom_133 (fun f1376859 H locs n1376861 g1376862 hW => ?_)
  have hF := FM.tr hF g1376862 rfl
  refine lv_aload_n hx hb dX10_copyFrom_136 rfl (lv_at hl 1 rfl) ?_
  refine fg_RX10_36 E hW ru1 dX10_copyFrom_137 (fun a1376863 m1376864 r1376865 => ?_)
  refine lv_iconst (v := 0) hx hb dX10_copyFrom_140 (by decide) ?_
  refine lv_aload_n hx hb dX10_copyFrom_141 rfl (lv_at hl 0 rfl) ?_
  refine fg_RX10_36 E hW rh0 dX10_copyFrom_142 (fun a1376866 m1376867 r1376868 => ?_)
  refine lv_iconst (v := 0) hx hb dX10_copyFrom_145 (by decide) ?_
  refine lv_bipush (v := 40) hx hb dX10_copyFrom_146 (by decide) ?_
  refine t_copy (N := 40) (n0 := 40) (n1 := 40) E hW tw_1303 ⟨tw_1004, tw_1003, tw_122⟩ hl.1 rfl r1376865 (by decide) rfl r1376868 (by decide) rfl rfl (by decide) rfl (by decide) (by decide) (by decide) (fun _ _ => trivial) ⟨Nat.le_of_ble_eq_true rfl, Nat.le_of_ble_eq_true rfl⟩ dX10_copyFrom_148 (fun f1376869 H locs n1376871 g1376872 hW => ?_)
  have hF := FM.tr hF g1376872 rfl
  exact e_V E hW rfl ⟨rfl, hF⟩ dX10_copyFrom_151
def ms_X10_isGuarded : List (Nat × Nat) := []
def po_X10_isGuarded (kp : Nat → Nat) (L : List Nat) (f0 : Nat → va_E) (h0 : Nat) (u1 : Int32) (u2 : Int32) : Option Value → (Nat → va_E) → Prop := fun v f => (∃ r : Int32, v = some (.int r) ∧ ((0 : Int) ≤ r.toInt ∧ r.toInt ≤ 1)) ∧ FM kp L ms_X10_isGuarded f0 f
set_option maxHeartbeats 4000000 in
set_option maxRecDepth 100000 in
theorem c_X10_isGuarded (l : Launch) (G : va_G) (cI cJ cZ cD cR cT : ClassId) (kp : Nat → Nat) (L : List Nat) (f0 : Nat → va_E) (hTH : TH cI cJ cZ cD cR cT kp L f0) (sz : Nat) (h0 : Nat) (u1 : Int32) (u2 : Int32) (rh0 : RK kp L h0 10) (pu1 : (0 : Int) ≤ u1.toInt ∧ u1.toInt ≤ 39) (pu2 : (0 : Int) ≤ u2.toInt ∧ u2.toInt ≤ 399) : Met l yX10_isGuarded (Cond.code yX10_isGuarded cX10_isGuarded 4 (some .boolean) :: wTab) ({ frames := 1, cells := 0, slots := 0, locals := 40 }) (va_Pc [.ref h0, .int u1, .int u2] (PreW G (tys6 cI cJ cZ cD cR cT) (va_pl L f0) sz)) (QT (po_X10_isGuarded kp L f0 h0 u1 u2) G cI cJ cZ cD cR cT (va_A (va_pl L f0) sz) kp L) 0 0 (va_A (va_pl L f0) sz) := by
  refine metT (by decide) (Nat.le_of_ble_eq_true rfl) hTH ?_
  intro p e s m below meth c A ls E hW hl
  obtain ⟨hx, hb, -, hml, hown, hts, -, -, -⟩ := id E
  have hF : FM kp L ms_X10_isGuarded f0 f0 := FM.rf
  have hl : lv_has ls 4 [(0, .ref h0), (1, .int u1), (2, .int u2)] := hl
  refine lv_iconst (v := 0) hx hb dX10_isGuarded_0 (by decide) ?_
  refine lv_istore_n (lv' := [(3, .int 0), (0, .ref h0), (1, .int u1), (2, .int u2)]) hx hb dX10_isGuarded_1 rfl hl (by decide) rfl (fun ls hl => ?_)
  have L1377502 : ∀ (n : Nat), ∀ (y1377500 : Int32) (b1377501 : (0 : Int) ≤ y1377500.toInt ∧ y1377500.toInt ≤ 40) (hm : (41 : Int) - y1377500.toInt ≤ n) (H : Heap) (locs : List Loc) (ls : Array Slot), WS G cI cJ cZ cD cR cT A kp L f0 s H locs → FM kp L ms_X10_isGuarded f0 f0 → lv_has ls 4 [(3, .int y1377500), (0, .ref h0), (1, .int u1), (2, .int u2)] → W p l e ({ frames := 1, cells := 0, slots := 0, locals := 40 }) s m ([.ref h0, .int u1, .int u2] : List Value).toArray below meth c H locs 0 0 (MQ below (QT (po_X10_isGuarded kp L f0 h0 u1 u2) G cI cJ cZ cD cR cT A kp L) ([.ref h0, .int u1, .int u2] : List Value).toArray s 0 0 A) (F0 m 2 ls []) := by
    intro n
    induction n with
    | zero =>
      intro y1377500 b1377501 hm H locs ls hW hF hl
      have hz := i32_b y1377500
      exfalso; omega
    | succ n ih =>
      intro y1377500 b1377501 hm H locs ls hW hF hl
      have ih2 := ih
      refine lv_iload_n hx hb dX10_isGuarded_2 rfl (lv_at hl 0 rfl) ?_
      refine lv_aload_n hx hb dX10_isGuarded_3 rfl (lv_at hl 1 rfl) ?_
      refine fg_RX10_43 E hW rh0 dX10_isGuarded_4 (fun y1377503 m1377504 b1377505 => ?_)
      refine q_icmp_ge (tgt := 48) hx hb dX10_isGuarded_7 (by decide) rfl rfl (fun c1377506 => ?_) (fun c1377506 => ?_)
      · refine lv_iconst (v := 0) hx hb dX10_isGuarded_48 (by decide) ?_
        exact e_Z E hW rfl (by decide) ⟨⟨_, rfl, (by have hk : (0 : Int32).toInt = 0 := rfl; first | decide | omega)⟩, hF⟩ dX10_isGuarded_49
      · refine lv_aload_n hx hb dX10_isGuarded_10 rfl (lv_at hl 1 rfl) ?_
        refine fg_RX10_30 E hW rh0 dX10_isGuarded_11 (fun a1377507 m1377508 r1377509 => ?_)
        refine lv_iload_n hx hb dX10_isGuarded_14 rfl (lv_at hl 0 rfl) ?_
        refine gl_708 E hW r1377509 ⟨by omega, by omega⟩ dX10_isGuarded_15 (fun y1377510 m1377511 => ?_)
        refine lv_iload_n hx hb dX10_isGuarded_16 rfl (lv_at hl 2 rfl) ?_
        refine q_icmp_ne (tgt := 42) hx hb dX10_isGuarded_17 (by decide) rfl rfl (fun c1377513 => ?_) (fun c1377513 => ?_)
        · refine q_iinc hx hb dX10_isGuarded_42 hl (k := 0) rfl rfl rfl (by omega) (by decide) (fun i1377514 ls h1377515 hl => ?_)
          have hl : lv_has ls 4 [(3, .int i1377514), (0, .ref h0), (1, .int u1), (2, .int u2)] := hl
          refine lv_goto (tgt := 2) hx hb dX10_isGuarded_45 (by decide) ?_
          exact ih2 i1377514 (by omega) (by omega) _ _ _ hW hF (lv_sub hl [0, 1, 2, 3] rfl)
        · refine lv_iload_n hx hb dX10_isGuarded_20 rfl (lv_at hl 3 rfl) ?_
          refine lv_aload_n hx hb dX10_isGuarded_21 rfl (lv_at hl 1 rfl) ?_
          refine fg_RX10_33 E hW rh0 dX10_isGuarded_22 (fun a1377516 m1377517 r1377518 => ?_)
          refine lv_iload_n hx hb dX10_isGuarded_25 rfl (lv_at hl 0 rfl) ?_
          refine gl_709 E hW r1377518 ⟨by omega, by omega⟩ dX10_isGuarded_26 (fun y1377519 m1377520 => ?_)
          refine q_icmp_lt (tgt := 42) hx hb dX10_isGuarded_27 (by decide) rfl rfl (fun c1377522 => ?_) (fun c1377522 => ?_)
          · refine q_iinc hx hb dX10_isGuarded_42 hl (k := 0) rfl rfl rfl (by omega) (by decide) (fun i1377523 ls h1377524 hl => ?_)
            have hl : lv_has ls 4 [(3, .int i1377523), (0, .ref h0), (1, .int u1), (2, .int u2)] := hl
            refine lv_goto (tgt := 2) hx hb dX10_isGuarded_45 (by decide) ?_
            exact ih2 i1377523 (by omega) (by omega) _ _ _ hW hF (lv_sub hl [0, 1, 2, 3] rfl)
          · refine lv_iload_n hx hb dX10_isGuarded_30 rfl (lv_at hl 3 rfl) ?_
            refine lv_aload_n hx hb dX10_isGuarded_31 rfl (lv_at hl 1 rfl) ?_
            refine fg_RX10_36 E hW rh0 dX10_isGuarded_32 (fun a1377525 m1377526 r1377527 => ?_)
            refine lv_iload_n hx hb dX10_isGuarded_35 rfl (lv_at hl 0 rfl) ?_
            refine gl_710 E hW r1377527 ⟨by omega, by omega⟩ dX10_isGuarded_36 (fun y1377528 m1377529 => ?_)
            refine q_icmp_gt (tgt := 42) hx hb dX10_isGuarded_37 (by decide) rfl rfl (fun c1377531 => ?_) (fun c1377531 => ?_)
            · refine q_iinc hx hb dX10_isGuarded_42 hl (k := 0) rfl rfl rfl (by omega) (by decide) (fun i1377532 ls h1377533 hl => ?_)
              have hl : lv_has ls 4 [(3, .int i1377532), (0, .ref h0), (1, .int u1), (2, .int u2)] := hl
              refine lv_goto (tgt := 2) hx hb dX10_isGuarded_45 (by decide) ?_
              exact ih2 i1377532 (by omega) (by omega) _ _ _ hW hF (lv_sub hl [0, 1, 2, 3] rfl)
            · refine lv_iconst (v := 1) hx hb dX10_isGuarded_40 (by decide) ?_
              exact e_Z E hW rfl (by decide) ⟨⟨_, rfl, (by have hk : (1 : Int32).toInt = 1 := rfl; first | decide | omega)⟩, hF⟩ dX10_isGuarded_41
  have hk1377534 : (0 : Int32).toInt = 0 := rfl
  exact L1377502 41 0 (by decide) (by omega) _ _ _ hW hF (lv_sub hl [0, 1, 2, 3] rfl)
def ms_X10_openOn : List (Nat × Nat) := []
def po_X10_openOn (kp : Nat → Nat) (L : List Nat) (f0 : Nat → va_E) (h0 : Nat) (u1 : Int32) : Option Value → (Nat → va_E) → Prop := fun v f => (∃ r : Int32, v = some (.int r) ∧ ((-1 : Int) ≤ r.toInt ∧ r.toInt ≤ 59)) ∧ FM kp L ms_X10_openOn f0 f
set_option maxHeartbeats 4000000 in
set_option maxRecDepth 100000 in
theorem c_X10_openOn (l : Launch) (G : va_G) (cI cJ cZ cD cR cT : ClassId) (kp : Nat → Nat) (L : List Nat) (f0 : Nat → va_E) (hTH : TH cI cJ cZ cD cR cT kp L f0) (sz : Nat) (h0 : Nat) (u1 : Int32) (rh0 : RK kp L h0 10) (pu1 : (0 : Int) ≤ u1.toInt ∧ u1.toInt ≤ 39) : Met l yX10_openOn (Cond.code yX10_openOn cX10_openOn 3 (some .int) :: wTab) ({ frames := 1, cells := 0, slots := 0, locals := 40 }) (va_Pc [.ref h0, .int u1] (PreW G (tys6 cI cJ cZ cD cR cT) (va_pl L f0) sz)) (QT (po_X10_openOn kp L f0 h0 u1) G cI cJ cZ cD cR cT (va_A (va_pl L f0) sz) kp L) 0 0 (va_A (va_pl L f0) sz) := by
  refine metT (by decide) (Nat.le_of_ble_eq_true rfl) hTH ?_
  intro p e s m below meth c A ls E hW hl
  obtain ⟨hx, hb, -, hml, hown, hts, -, -, -⟩ := id E
  have hF : FM kp L ms_X10_openOn f0 f0 := FM.rf
  have hl : lv_has ls 3 [(0, .ref h0), (1, .int u1)] := hl
  refine lv_iconst (v := 0) hx hb dX10_openOn_0 (by decide) ?_
  refine lv_istore_n (lv' := [(2, .int 0), (0, .ref h0), (1, .int u1)]) hx hb dX10_openOn_1 rfl hl (by decide) rfl (fun ls hl => ?_)
  have L1378137 : ∀ (n : Nat), ∀ (y1378135 : Int32) (b1378136 : (0 : Int) ≤ y1378135.toInt ∧ y1378135.toInt ≤ 60) (hm : (61 : Int) - y1378135.toInt ≤ n) (H : Heap) (locs : List Loc) (ls : Array Slot), WS G cI cJ cZ cD cR cT A kp L f0 s H locs → FM kp L ms_X10_openOn f0 f0 → lv_has ls 3 [(2, .int y1378135), (0, .ref h0), (1, .int u1)] → W p l e ({ frames := 1, cells := 0, slots := 0, locals := 40 }) s m ([.ref h0, .int u1] : List Value).toArray below meth c H locs 0 0 (MQ below (QT (po_X10_openOn kp L f0 h0 u1) G cI cJ cZ cD cR cT A kp L) ([.ref h0, .int u1] : List Value).toArray s 0 0 A) (F0 m 2 ls []) := by
    intro n
    induction n with
    | zero =>
      intro y1378135 b1378136 hm H locs ls hW hF hl
      have hz := i32_b y1378135
      exfalso; omega
    | succ n ih =>
      intro y1378135 b1378136 hm H locs ls hW hF hl
      have ih2 := ih
      refine lv_iload_n hx hb dX10_openOn_2 rfl (lv_at hl 0 rfl) ?_
      refine lv_aload_n hx hb dX10_openOn_3 rfl (lv_at hl 1 rfl) ?_
      refine fg_RX10_39 E hW rh0 dX10_openOn_4 (fun y1378138 m1378139 b1378140 => ?_)
      refine q_icmp_ge (tgt := 38) hx hb dX10_openOn_7 (by decide) rfl rfl (fun c1378141 => ?_) (fun c1378141 => ?_)
      · refine lv_iconst (v := (-1)) hx hb dX10_openOn_38 (by decide) ?_
        exact e_I E hW rfl ⟨⟨_, rfl, (by have hk : ((-1) : Int32).toInt = -1 := rfl; first | decide | omega)⟩, hF⟩ dX10_openOn_39
      · refine lv_aload_n hx hb dX10_openOn_10 rfl (lv_at hl 1 rfl) ?_
        refine fg_RX10_27 E hW rh0 dX10_openOn_11 (fun a1378142 m1378143 r1378144 => ?_)
        refine lv_iload_n hx hb dX10_openOn_14 rfl (lv_at hl 0 rfl) ?_
        refine gl_706 E hW r1378144 ⟨by omega, by omega⟩ dX10_openOn_15 (fun y1378145 m1378146 => ?_)
        refine lv_iconst (v := 1) hx hb dX10_openOn_16 (by decide) ?_
        refine q_icmp_ne (Y := 1) (tgt := 32) hx hb dX10_openOn_17 (by decide) rfl rfl (fun c1378148 => ?_) (fun c1378148 => ?_)
        · refine q_iinc hx hb dX10_openOn_32 hl (k := 0) rfl rfl rfl (by omega) (by decide) (fun i1378149 ls h1378150 hl => ?_)
          have hl : lv_has ls 3 [(2, .int i1378149), (0, .ref h0), (1, .int u1)] := hl
          refine lv_goto (tgt := 2) hx hb dX10_openOn_35 (by decide) ?_
          exact ih2 i1378149 (by omega) (by omega) _ _ _ hW hF (lv_sub hl [0, 1, 2] rfl)
        · refine lv_aload_n hx hb dX10_openOn_20 rfl (lv_at hl 1 rfl) ?_
          refine fg_RX10_9 E hW rh0 dX10_openOn_21 (fun a1378151 m1378152 r1378153 => ?_)
          refine lv_iload_n hx hb dX10_openOn_24 rfl (lv_at hl 0 rfl) ?_
          refine gl_701 E hW r1378153 ⟨by omega, by omega⟩ dX10_openOn_25 (fun y1378154 m1378155 b1378156 => ?_)
          refine lv_iload_n hx hb dX10_openOn_26 rfl (lv_at hl 2 rfl) ?_
          refine q_icmp_ne (tgt := 32) hx hb dX10_openOn_27 (by decide) rfl rfl (fun c1378157 => ?_) (fun c1378157 => ?_)
          · refine q_iinc hx hb dX10_openOn_32 hl (k := 0) rfl rfl rfl (by omega) (by decide) (fun i1378158 ls h1378159 hl => ?_)
            have hl : lv_has ls 3 [(2, .int i1378158), (0, .ref h0), (1, .int u1)] := hl
            refine lv_goto (tgt := 2) hx hb dX10_openOn_35 (by decide) ?_
            exact ih2 i1378158 (by omega) (by omega) _ _ _ hW hF (lv_sub hl [0, 1, 2] rfl)
          · refine lv_iload_n hx hb dX10_openOn_30 rfl (lv_at hl 0 rfl) ?_
            exact e_I E hW rfl ⟨⟨_, rfl, (by first | omega | trivial)⟩, hF⟩ dX10_openOn_31
  have hk1378160 : (0 : Int32).toInt = 0 := rfl
  exact L1378137 61 0 (by decide) (by omega) _ _ _ hW hF (lv_sub hl [0, 1, 2] rfl)
def ms_X10_leftOf : List (Nat × Nat) := []
def po_X10_leftOf (kp : Nat → Nat) (L : List Nat) (f0 : Nat → va_E) (h0 : Nat) (u1 : Int32) : Option Value → (Nat → va_E) → Prop := fun v f => (∃ r : Int32, v = some (.int r) ∧ (True)) ∧ FM kp L ms_X10_leftOf f0 f
set_option maxHeartbeats 4000000 in
set_option maxRecDepth 100000 in
theorem c_X10_leftOf (l : Launch) (G : va_G) (cI cJ cZ cD cR cT : ClassId) (kp : Nat → Nat) (L : List Nat) (f0 : Nat → va_E) (hTH : TH cI cJ cZ cD cR cT kp L f0) (sz : Nat) (h0 : Nat) (u1 : Int32) (rh0 : RK kp L h0 10) (pu1 : (0 : Int) ≤ u1.toInt ∧ u1.toInt ≤ 39) : Met l yX10_leftOf (Cond.code yX10_leftOf cX10_leftOf 3 (some .int) :: wTab) ({ frames := 2, cells := 0, slots := 0, locals := 62 }) (va_Pc [.ref h0, .int u1] (PreW G (tys6 cI cJ cZ cD cR cT) (va_pl L f0) sz)) (QT (po_X10_leftOf kp L f0 h0 u1) G cI cJ cZ cD cR cT (va_A (va_pl L f0) sz) kp L) 0 0 (va_A (va_pl L f0) sz) := by
  refine metT (by decide) (Nat.le_of_ble_eq_true rfl) hTH ?_
  intro p e s m below meth c A ls E hW hl
  obtain ⟨hx, hb, -, hml, hown, hts, -, -, -⟩ := id E
  have hF : FM kp L ms_X10_leftOf f0 f0 := FM.rf
  have hl : lv_has ls 3 [(0, .ref h0), (1, .int u1)] := hl
  refine lv_aload_n hx hb dX10_leftOf_0 rfl (lv_at hl 0 rfl) ?_
  refine lv_iload_n hx hb dX10_leftOf_1 rfl (lv_at hl 1 rfl) ?_
  refine t_callV (As := [.int u1]) (rest := []) E hW (c_X10_openOn l G cI cJ cZ cD cR cT kp L f0 hW.2.2.2 _ h0 u1 rh0 (by omega)) rh0 (by decide) rfl wk_X10_openOn tw_760 rfl ⟨Nat.le_of_ble_eq_true rfl, Nat.le_of_ble_eq_true rfl⟩ ⟨rfl, rfl⟩ hl.1 rfl (Nat.le_of_ble_eq_true rfl) dX10_leftOf_2 ⟨Nat.le_of_ble_eq_true rfl, Nat.le_of_ble_eq_true rfl⟩ (fun v1378161 f1378162 H locs q1378163 hW => ?_)
  obtain ⟨⟨x1378165, rfl, p1378166⟩, g1378164⟩ := q1378163
  have hF := FM.tr hF g1378164 rfl
  refine lv_istore_n (lv' := [(2, .int x1378165), (0, .ref h0), (1, .int u1)]) hx hb dX10_leftOf_5 rfl hl (by decide) rfl (fun ls hl => ?_)
  refine lv_iload_n hx hb dX10_leftOf_6 rfl (lv_at hl 0 rfl) ?_
  refine lv_iconst (v := (-1)) hx hb dX10_leftOf_7 (by decide) ?_
  have J1378174 : ∀ (y1378173 : Int32) (H : Heap) (locs : List Loc) (ls : Array Slot), WS G cI cJ cZ cD cR cT A kp L f1378162 s H locs → FM kp L ms_X10_leftOf f0 f1378162 → lv_has ls 3 [(2, .int x1378165), (0, .ref h0), (1, .int u1)] → W p l e ({ frames := 2, cells := 0, slots := 0, locals := 62 }) s m ([.ref h0, .int u1] : List Value).toArray below meth c H locs 0 0 (MQ below (QT (po_X10_leftOf kp L f0 h0 u1) G cI cJ cZ cD cR cT A kp L) ([.ref h0, .int u1] : List Value).toArray s 0 0 A) (F0 m 21 ls [.int y1378173]) := by
    intro y1378173 H locs ls hW hF hl
    exact e_I E hW rfl ⟨⟨_, rfl, trivial⟩, hF⟩ dX10_leftOf_21
  refine q_icmp_ne (Y := -1) (tgt := 15) hx hb dX10_leftOf_8 (by decide) rfl rfl (fun c1378175 => ?_) (fun c1378175 => ?_)
  · refine lv_aload_n hx hb dX10_leftOf_15 rfl (lv_at hl 1 rfl) ?_
    refine fg_RX10_21 E hW rh0 dX10_leftOf_16 (fun a1378176 m1378177 r1378178 => ?_)
    refine lv_iload_n hx hb dX10_leftOf_19 rfl (lv_at hl 0 rfl) ?_
    refine gl_704 E hW r1378178 ⟨by omega, by omega⟩ dX10_leftOf_20 (fun y1378179 m1378180 => ?_)
    exact J1378174 y1378179  _ _ _ hW hF (lv_sub hl [0, 1, 2] rfl)
  · refine lv_iconst (v := (-1)) hx hb dX10_leftOf_11 (by decide) ?_
    refine lv_goto (tgt := 21) hx hb dX10_leftOf_12 (by decide) ?_
    exact J1378174 (-1)  _ _ _ hW hF (lv_sub hl [0, 1, 2] rfl)
def ms_X10_stepOf : List (Nat × Nat) := []
def po_X10_stepOf (kp : Nat → Nat) (L : List Nat) (f0 : Nat → va_E) (h0 : Nat) (u1 : Int32) : Option Value → (Nat → va_E) → Prop := fun v f => (∃ r : Int32, v = some (.int r) ∧ (True)) ∧ FM kp L ms_X10_stepOf f0 f
set_option maxHeartbeats 4000000 in
set_option maxRecDepth 100000 in
theorem c_X10_stepOf (l : Launch) (G : va_G) (cI cJ cZ cD cR cT : ClassId) (kp : Nat → Nat) (L : List Nat) (f0 : Nat → va_E) (hTH : TH cI cJ cZ cD cR cT kp L f0) (sz : Nat) (h0 : Nat) (u1 : Int32) (rh0 : RK kp L h0 10) (pu1 : (0 : Int) ≤ u1.toInt ∧ u1.toInt ≤ 39) : Met l yX10_stepOf (Cond.code yX10_stepOf cX10_stepOf 3 (some .int) :: wTab) ({ frames := 2, cells := 0, slots := 0, locals := 62 }) (va_Pc [.ref h0, .int u1] (PreW G (tys6 cI cJ cZ cD cR cT) (va_pl L f0) sz)) (QT (po_X10_stepOf kp L f0 h0 u1) G cI cJ cZ cD cR cT (va_A (va_pl L f0) sz) kp L) 0 0 (va_A (va_pl L f0) sz) := by
  refine metT (by decide) (Nat.le_of_ble_eq_true rfl) hTH ?_
  intro p e s m below meth c A ls E hW hl
  obtain ⟨hx, hb, -, hml, hown, hts, -, -, -⟩ := id E
  have hF : FM kp L ms_X10_stepOf f0 f0 := FM.rf
  have hl : lv_has ls 3 [(0, .ref h0), (1, .int u1)] := hl
  refine lv_aload_n hx hb dX10_stepOf_0 rfl (lv_at hl 0 rfl) ?_
  refine lv_iload_n hx hb dX10_stepOf_1 rfl (lv_at hl 1 rfl) ?_
  refine t_callV (As := [.int u1]) (rest := []) E hW (c_X10_openOn l G cI cJ cZ cD cR cT kp L f0 hW.2.2.2 _ h0 u1 rh0 (by omega)) rh0 (by decide) rfl wk_X10_openOn tw_760 rfl ⟨Nat.le_of_ble_eq_true rfl, Nat.le_of_ble_eq_true rfl⟩ ⟨rfl, rfl⟩ hl.1 rfl (Nat.le_of_ble_eq_true rfl) dX10_stepOf_2 ⟨Nat.le_of_ble_eq_true rfl, Nat.le_of_ble_eq_true rfl⟩ (fun v1378182 f1378183 H locs q1378184 hW => ?_)
  obtain ⟨⟨x1378186, rfl, p1378187⟩, g1378185⟩ := q1378184
  have hF := FM.tr hF g1378185 rfl
  refine lv_istore_n (lv' := [(2, .int x1378186), (0, .ref h0), (1, .int u1)]) hx hb dX10_stepOf_5 rfl hl (by decide) rfl (fun ls hl => ?_)
  refine lv_iload_n hx hb dX10_stepOf_6 rfl (lv_at hl 0 rfl) ?_
  refine lv_iconst (v := (-1)) hx hb dX10_stepOf_7 (by decide) ?_
  have J1378195 : ∀ (y1378194 : Int32) (H : Heap) (locs : List Loc) (ls : Array Slot), WS G cI cJ cZ cD cR cT A kp L f1378183 s H locs → FM kp L ms_X10_stepOf f0 f1378183 → lv_has ls 3 [(2, .int x1378186), (0, .ref h0), (1, .int u1)] → W p l e ({ frames := 2, cells := 0, slots := 0, locals := 62 }) s m ([.ref h0, .int u1] : List Value).toArray below meth c H locs 0 0 (MQ below (QT (po_X10_stepOf kp L f0 h0 u1) G cI cJ cZ cD cR cT A kp L) ([.ref h0, .int u1] : List Value).toArray s 0 0 A) (F0 m 21 ls [.int y1378194]) := by
    intro y1378194 H locs ls hW hF hl
    exact e_I E hW rfl ⟨⟨_, rfl, trivial⟩, hF⟩ dX10_stepOf_21
  refine q_icmp_ne (Y := -1) (tgt := 15) hx hb dX10_stepOf_8 (by decide) rfl rfl (fun c1378196 => ?_) (fun c1378196 => ?_)
  · refine lv_aload_n hx hb dX10_stepOf_15 rfl (lv_at hl 1 rfl) ?_
    refine fg_RX10_18 E hW rh0 dX10_stepOf_16 (fun a1378197 m1378198 r1378199 => ?_)
    refine lv_iload_n hx hb dX10_stepOf_19 rfl (lv_at hl 0 rfl) ?_
    refine gl_703 E hW r1378199 ⟨by omega, by omega⟩ dX10_stepOf_20 (fun y1378200 m1378201 => ?_)
    exact J1378195 y1378200  _ _ _ hW hF (lv_sub hl [0, 1, 2] rfl)
  · refine lv_iconst (v := (-1)) hx hb dX10_stepOf_11 (by decide) ?_
    refine lv_goto (tgt := 21) hx hb dX10_stepOf_12 (by decide) ?_
    exact J1378195 (-1)  _ _ _ hW hF (lv_sub hl [0, 1, 2] rfl)
def ms_X7_copyFrom : List (Nat × Nat) := [(520, 0), (521, 0)]
def po_X7_copyFrom (kp : Nat → Nat) (L : List Nat) (f0 : Nat → va_E) (h0 : Nat) (u1 : Nat) : Option Value → (Nat → va_E) → Prop := fun v f => v = none ∧ FM kp L ms_X7_copyFrom f0 f
set_option maxHeartbeats 4000000 in
set_option maxRecDepth 100000 in
theorem c_X7_copyFrom (l : Launch) (G : va_G) (cI cJ cZ cD cR cT : ClassId) (kp : Nat → Nat) (L : List Nat) (f0 : Nat → va_E) (hTH : TH cI cJ cZ cD cR cT kp L f0) (sz : Nat) (h0 : Nat) (u1 : Nat) (rh0 : RK kp L h0 7) (ru1 : RK kp L u1 7) : Met l yX7_copyFrom (Cond.code yX7_copyFrom cX7_copyFrom 3 none :: wTab) ({ frames := 1, cells := 0, slots := 0, locals := 60 }) (va_Pc [.ref h0, .ref u1] (PreW G (tys6 cI cJ cZ cD cR cT) (va_pl L f0) sz)) (QT (po_X7_copyFrom kp L f0 h0 u1) G cI cJ cZ cD cR cT (va_A (va_pl L f0) sz) kp L) 0 0 (va_A (va_pl L f0) sz) := by
  refine metT (by decide) (Nat.le_of_ble_eq_true rfl) hTH ?_
  intro p e s m below meth c A ls E hW hl
  obtain ⟨hx, hb, -, hml, hown, hts, -, -, -⟩ := id E
  have hF : FM kp L ms_X7_copyFrom f0 f0 := FM.rf
  have hl : lv_has ls 3 [(0, .ref h0), (1, .ref u1)] := hl
  refine lv_aload_n hx hb dX7_copyFrom_0 rfl (lv_at hl 1 rfl) ?_
  refine fg_RX7_9 E hW ru1 dX7_copyFrom_1 (fun a1378203 m1378204 r1378205 => ?_)
  refine lv_iconst (v := 0) hx hb dX7_copyFrom_4 (by decide) ?_
  refine lv_aload_n hx hb dX7_copyFrom_5 rfl (lv_at hl 0 rfl) ?_
  refine fg_RX7_9 E hW rh0 dX7_copyFrom_6 (fun a1378206 m1378207 r1378208 => ?_)
  refine lv_iconst (v := 0) hx hb dX7_copyFrom_9 (by decide) ?_
  refine lv_sipush (v := 400) hx hb dX7_copyFrom_10 (by decide) ?_
  refine t_copy (N := 400) (n0 := 400) (n1 := 400) E hW tw_1308 ⟨tw_1004, tw_1003, tw_122⟩ hl.1 rfl r1378205 (by decide) rfl r1378208 (by decide) rfl rfl (by decide) rfl (by decide) (by decide) (by decide) (fun _ _ => trivial) ⟨Nat.le_of_ble_eq_true rfl, Nat.le_of_ble_eq_true rfl⟩ dX7_copyFrom_13 (fun f1378209 H locs n1378211 g1378212 hW => ?_)
  have hF := FM.tr hF g1378212 rfl
  refine lv_iconst (v := 0) hx hb dX7_copyFrom_16 (by decide) ?_
  refine lv_istore_n (lv' := [(2, .int 0), (0, .ref h0), (1, .ref u1)]) hx hb dX7_copyFrom_17 rfl hl (by decide) rfl (fun ls hl => ?_)
  have L1379514 : ∀ (n : Nat), ∀ (f1379509 : Nat → va_E) (y1379512 : Int32) (m1379510 : oR (f1379509 h0) 0 = a1378206) (m1379511 : oR (f1379509 u1) 0 = a1378203) (b1379513 : (0 : Int) ≤ y1379512.toInt ∧ y1379512.toInt ≤ 400) (hm : (401 : Int) - y1379512.toInt ≤ n) (H : Heap) (locs : List Loc) (ls : Array Slot), WS G cI cJ cZ cD cR cT A kp L f1379509 s H locs → FM kp L ms_X7_copyFrom f0 f1379509 → lv_has ls 3 [(2, .int y1379512), (0, .ref h0), (1, .ref u1)] → W p l e ({ frames := 1, cells := 0, slots := 0, locals := 60 }) s m ([.ref h0, .ref u1] : List Value).toArray below meth c H locs 0 0 (MQ below (QT (po_X7_copyFrom kp L f0 h0 u1) G cI cJ cZ cD cR cT A kp L) ([.ref h0, .ref u1] : List Value).toArray s 0 0 A) (F0 m 18 ls []) := by
    intro n
    induction n with
    | zero =>
      intro f1379509 y1379512 m1379510 m1379511 b1379513 hm H locs ls hW hF hl
      have hz := i32_b y1379512
      exfalso; omega
    | succ n ih =>
      intro f1379509 y1379512 m1379510 m1379511 b1379513 hm H locs ls hW hF hl
      have ih18 := ih
      refine lv_iload_n hx hb dX7_copyFrom_18 rfl (lv_at hl 0 rfl) ?_
      refine lv_sipush (v := 400) hx hb dX7_copyFrom_19 (by decide) ?_
      refine q_icmp_ge (Y := 400) (tgt := 43) hx hb dX7_copyFrom_22 (by decide) rfl rfl (fun c1379536 => ?_) (fun c1379536 => ?_)
      · exact e_V E hW rfl ⟨rfl, hF⟩ dX7_copyFrom_43
      · refine lv_aload_n hx hb dX7_copyFrom_25 rfl (lv_at hl 1 rfl) ?_
        refine fg_RX7_17 E hW rh0 dX7_copyFrom_26 (fun a1379537 m1379538 r1379539 => ?_)
        refine lv_iload_n hx hb dX7_copyFrom_29 rfl (lv_at hl 0 rfl) ?_
        refine lv_aload_n hx hb dX7_copyFrom_30 rfl (lv_at hl 2 rfl) ?_
        refine fg_RX7_17 E hW ru1 dX7_copyFrom_31 (fun a1379540 m1379541 r1379542 => ?_)
        refine lv_iload_n hx hb dX7_copyFrom_34 rfl (lv_at hl 0 rfl) ?_
        refine gl_521 E hW r1379542 ⟨by omega, by omega⟩ dX7_copyFrom_35 (fun o1379543 m1379545 k1379544 => ?_)
        rcases o1379543 with _ | a1379546
        · have hl : lv_has ls 3 [(2, .int y1379512), (0, .ref h0), (1, .ref u1)] := hl
          show W p l e ({ frames := 1, cells := 0, slots := 0, locals := 60 }) s m ([.ref h0, .ref u1] : List Value).toArray below meth c _ _ 0 0 (MQ below (QT (po_X7_copyFrom kp L f0 h0 u1) G cI cJ cZ cD cR cT A kp L) ([.ref h0, .ref u1] : List Value).toArray s 0 0 A) (F0 m 36 ls [.null, .int y1379512, .ref a1379537])
          refine r_astRN E hW r1379539 (by decide) rfl (by decide) (ixN (N := 400) hW r1379539 (by decide) rfl (by decide) ⟨by omega, by omega⟩) dX7_copyFrom_36 (fun f1379548 H locs n1379549 g1379550 hW => ?_)
          have hF := FM.tr hF g1379550 rfl
          refine q_iinc hx hb dX7_copyFrom_37 hl (k := 0) rfl rfl rfl (by omega) (by decide) (fun i1379551 ls h1379552 hl => ?_)
          have hl : lv_has ls 3 [(2, .int i1379551), (0, .ref h0), (1, .ref u1)] := hl
          refine lv_goto (tgt := 18) hx hb dX7_copyFrom_40 (by decide) ?_
          exact ih18 f1379548 i1379551 ((fm_R g1379550 rh0 rfl).trans m1379510) ((fm_R g1379550 ru1 rfl).trans m1379511) (by omega) (by omega) _ _ _ hW hF (lv_sub hl [0, 1, 2] rfl)
        · have r1379547 : RK kp L a1379546 6 := k1379544 _ rfl
          have hl : lv_has ls 3 [(2, .int y1379512), (0, .ref h0), (1, .ref u1)] := hl
          show W p l e ({ frames := 1, cells := 0, slots := 0, locals := 60 }) s m ([.ref h0, .ref u1] : List Value).toArray below meth c _ _ 0 0 (MQ below (QT (po_X7_copyFrom kp L f0 h0 u1) G cI cJ cZ cD cR cT A kp L) ([.ref h0, .ref u1] : List Value).toArray s 0 0 A) (F0 m 36 ls [.ref a1379546, .int y1379512, .ref a1379537])
          refine r_astR E hW r1379539 (by decide) rfl (by decide) r1379547 (ixN (N := 400) hW r1379539 (by decide) rfl (by decide) ⟨by omega, by omega⟩) dX7_copyFrom_36 (fun f1379553 H locs n1379554 g1379555 hW => ?_)
          have hF := FM.tr hF g1379555 rfl
          refine q_iinc hx hb dX7_copyFrom_37 hl (k := 0) rfl rfl rfl (by omega) (by decide) (fun i1379556 ls h1379557 hl => ?_)
          have hl : lv_has ls 3 [(2, .int i1379556), (0, .ref h0), (1, .ref u1)] := hl
          refine lv_goto (tgt := 18) hx hb dX7_copyFrom_40 (by decide) ?_
          exact ih18 f1379553 i1379556 ((fm_R g1379555 rh0 rfl).trans m1379510) ((fm_R g1379555 ru1 rfl).trans m1379511) (by omega) (by omega) _ _ _ hW hF (lv_sub hl [0, 1, 2] rfl)
  have hk1379558 : (0 : Int32).toInt = 0 := rfl
  exact L1379514 401 f1378209 0 ((fm_R g1378212 rh0 rfl).trans m1378207) ((fm_R g1378212 ru1 rfl).trans m1378204) (by decide) (by omega) _ _ _ hW hF (lv_sub hl [0, 1, 2] rfl)
def ms_X7_priceIn : List (Nat × Nat) := []
def po_X7_priceIn (kp : Nat → Nat) (L : List Nat) (f0 : Nat → va_E) (h0 : Nat) (u1 : Int32) : Option Value → (Nat → va_E) → Prop := fun v f => (∃ r : Int32, v = some (.int r) ∧ (True)) ∧ FM kp L ms_X7_priceIn f0 f
set_option maxHeartbeats 4000000 in
set_option maxRecDepth 100000 in
theorem c_X7_priceIn (l : Launch) (G : va_G) (cI cJ cZ cD cR cT : ClassId) (kp : Nat → Nat) (L : List Nat) (f0 : Nat → va_E) (hTH : TH cI cJ cZ cD cR cT kp L f0) (sz : Nat) (h0 : Nat) (u1 : Int32) (rh0 : RK kp L h0 7) (pu1 : (0 : Int) ≤ u1.toInt ∧ u1.toInt ≤ 399) : Met l yX7_priceIn (Cond.code yX7_priceIn cX7_priceIn 3 (some .int) :: wTab) ({ frames := 1, cells := 0, slots := 0, locals := 60 }) (va_Pc [.ref h0, .int u1] (PreW G (tys6 cI cJ cZ cD cR cT) (va_pl L f0) sz)) (QT (po_X7_priceIn kp L f0 h0 u1) G cI cJ cZ cD cR cT (va_A (va_pl L f0) sz) kp L) 0 0 (va_A (va_pl L f0) sz) := by
  refine metT (by decide) (Nat.le_of_ble_eq_true rfl) hTH ?_
  intro p e s m below meth c A ls E hW hl
  obtain ⟨hx, hb, -, hml, hown, hts, -, -, -⟩ := id E
  have hF : FM kp L ms_X7_priceIn f0 f0 := FM.rf
  have hl : lv_has ls 3 [(0, .ref h0), (1, .int u1)] := hl
  refine lv_iload_n hx hb dX7_priceIn_0 rfl (lv_at hl 1 rfl) ?_
  refine lv_sipush (v := 399) hx hb dX7_priceIn_1 (by decide) ?_
  refine t_min (Y := 399) (own := RX7) E tw_704 ⟨tw_637, tw_115, tw_638⟩ hl.1 ⟨Nat.le_of_ble_eq_true rfl, Nat.le_of_ble_eq_true rfl⟩ ⟨Nat.le_of_ble_eq_true rfl, Nat.le_of_ble_eq_true rfl⟩ rfl rfl dX7_priceIn_4 (fun x1379559 h1379560 => ?_)
  refine lv_istore_n (lv' := [(2, .int x1379559), (0, .ref h0), (1, .int u1)]) hx hb dX7_priceIn_7 rfl hl (by decide) rfl (fun ls hl => ?_)
  have L1379599 : ∀ (n : Nat), ∀ (y1379597 : Int32) (b1379598 : (-1 : Int) ≤ y1379597.toInt ∧ y1379597.toInt ≤ 399) (hm : y1379597.toInt - (-2 : Int) ≤ n) (H : Heap) (locs : List Loc) (ls : Array Slot), WS G cI cJ cZ cD cR cT A kp L f0 s H locs → FM kp L ms_X7_priceIn f0 f0 → lv_has ls 3 [(2, .int y1379597), (0, .ref h0), (1, .int u1)] → W p l e ({ frames := 1, cells := 0, slots := 0, locals := 60 }) s m ([.ref h0, .int u1] : List Value).toArray below meth c H locs 0 0 (MQ below (QT (po_X7_priceIn kp L f0 h0 u1) G cI cJ cZ cD cR cT A kp L) ([.ref h0, .int u1] : List Value).toArray s 0 0 A) (F0 m 8 ls []) := by
    intro n
    induction n with
    | zero =>
      intro y1379597 b1379598 hm H locs ls hW hF hl
      have hz := i32_b y1379597
      exfalso; omega
    | succ n ih =>
      intro y1379597 b1379598 hm H locs ls hW hF hl
      have ih8 := ih
      refine lv_iload_n hx hb dX7_priceIn_8 rfl (lv_at hl 0 rfl) ?_
      refine q_if_lt (tgt := 35) hx hb dX7_priceIn_9 (by decide) rfl (fun c1379600 => ?_) (fun c1379600 => ?_)
      · refine lv_bipush (v := 100) hx hb dX7_priceIn_35 (by decide) ?_
        exact e_I E hW rfl ⟨⟨_, rfl, trivial⟩, hF⟩ dX7_priceIn_37
      · refine lv_aload_n hx hb dX7_priceIn_12 rfl (lv_at hl 1 rfl) ?_
        refine fg_RX7_9 E hW rh0 dX7_priceIn_13 (fun a1379601 m1379602 r1379603 => ?_)
        refine lv_iload_n hx hb dX7_priceIn_16 rfl (lv_at hl 0 rfl) ?_
        refine gl_520 E hW r1379603 ⟨by omega, by omega⟩ dX7_priceIn_17 (fun y1379604 m1379605 => ?_)
        refine lv_iconst (v := (-1)) hx hb dX7_priceIn_18 (by decide) ?_
        refine q_icmp_eq (Y := -1) (tgt := 29) hx hb dX7_priceIn_19 (by decide) rfl rfl (fun c1379607 => ?_) (fun c1379607 => ?_)
        · refine q_iinc hx hb dX7_priceIn_29 hl (k := 0) rfl rfl rfl (by omega) (by decide) (fun i1379608 ls h1379609 hl => ?_)
          have hl : lv_has ls 3 [(2, .int i1379608), (0, .ref h0), (1, .int u1)] := hl
          refine lv_goto (tgt := 8) hx hb dX7_priceIn_32 (by decide) ?_
          exact ih8 i1379608 (by omega) (by omega) _ _ _ hW hF (lv_sub hl [0, 1, 2] rfl)
        · refine lv_aload_n hx hb dX7_priceIn_22 rfl (lv_at hl 1 rfl) ?_
          refine fg_RX7_9 E hW rh0 dX7_priceIn_23 (fun a1379610 m1379611 r1379612 => ?_)
          obtain rfl : a1379601 = a1379610 := (m1379602).symm.trans m1379611
          refine lv_iload_n hx hb dX7_priceIn_26 rfl (lv_at hl 0 rfl) ?_
          refine gl_520 E hW r1379603 ⟨by omega, by omega⟩ dX7_priceIn_27 (fun y1379613 m1379614 => ?_)
          obtain rfl : y1379604 = y1379613 := (m1379605).symm.trans m1379614
          exact e_I E hW rfl ⟨⟨_, rfl, trivial⟩, hF⟩ dX7_priceIn_28
  exact L1379599 401 x1379559 (by omega) (by omega) _ _ _ hW hF (lv_sub hl [0, 1, 2] rfl)
def ms_X7_sacksOf : List (Nat × Nat) := []
def po_X7_sacksOf (kp : Nat → Nat) (L : List Nat) (f0 : Nat → va_E) (h0 : Nat) (u1 : Int32) (u2 : Int32) : Option Value → (Nat → va_E) → Prop := fun v f => (∃ r : Int32, v = some (.int r) ∧ (True)) ∧ FM kp L ms_X7_sacksOf f0 f
set_option maxHeartbeats 4000000 in
set_option maxRecDepth 100000 in
theorem c_X7_sacksOf (l : Launch) (G : va_G) (cI cJ cZ cD cR cT : ClassId) (kp : Nat → Nat) (L : List Nat) (f0 : Nat → va_E) (hTH : TH cI cJ cZ cD cR cT kp L f0) (sz : Nat) (h0 : Nat) (u1 : Int32) (u2 : Int32) (rh0 : RK kp L h0 7) (pu1 : (0 : Int) ≤ u1.toInt ∧ u1.toInt ≤ 39) (pu2 : (0 : Int) ≤ u2.toInt ∧ u2.toInt ≤ 399) : Met l yX7_sacksOf (Cond.code yX7_sacksOf cX7_sacksOf 4 (some .int) :: wTab) ({ frames := 1, cells := 0, slots := 0, locals := 40 }) (va_Pc [.ref h0, .int u1, .int u2] (PreW G (tys6 cI cJ cZ cD cR cT) (va_pl L f0) sz)) (QT (po_X7_sacksOf kp L f0 h0 u1 u2) G cI cJ cZ cD cR cT (va_A (va_pl L f0) sz) kp L) 0 0 (va_A (va_pl L f0) sz) := by
  refine metT (by decide) (Nat.le_of_ble_eq_true rfl) hTH ?_
  intro p e s m below meth c A ls E hW hl
  obtain ⟨hx, hb, -, hml, hown, hts, -, -, -⟩ := id E
  have hF : FM kp L ms_X7_sacksOf f0 f0 := FM.rf
  have hl : lv_has ls 4 [(0, .ref h0), (1, .int u1), (2, .int u2)] := hl
  refine lv_aload_n hx hb dX7_sacksOf_0 rfl (lv_at hl 0 rfl) ?_
  refine fg_RX7_17 E hW rh0 dX7_sacksOf_1 (fun a1379616 m1379617 r1379618 => ?_)
  refine lv_iload_n hx hb dX7_sacksOf_4 rfl (lv_at hl 2 rfl) ?_
  refine gl_521 E hW r1379618 ⟨by omega, by omega⟩ dX7_sacksOf_5 (fun o1379619 m1379621 k1379620 => ?_)
  rcases o1379619 with _ | a1379622
  · have hl : lv_has ls 4 [(0, .ref h0), (1, .int u1), (2, .int u2)] := hl
    show W p l e ({ frames := 1, cells := 0, slots := 0, locals := 40 }) s m ([.ref h0, .int u1, .int u2] : List Value).toArray below meth c _ _ 0 0 (MQ below (QT (po_X7_sacksOf kp L f0 h0 u1 u2) G cI cJ cZ cD cR cT A kp L) ([.ref h0, .int u1, .int u2] : List Value).toArray s 0 0 A) (F0 m 6 ls [.null])
    refine lv_astore_nN (lv' := [(3, .null), (0, .ref h0), (1, .int u1), (2, .int u2)]) hx hb dX7_sacksOf_6 rfl hl (by decide) rfl (fun ls hl => ?_)
    refine lv_aload_nN hx hb dX7_sacksOf_7 rfl (lv_at hl 0 rfl) ?_
    refine lv_ifnullN (tgt := 33) hx hb dX7_sacksOf_8 (by decide) ?_
    refine lv_iconst (v := (-1)) hx hb dX7_sacksOf_33 (by decide) ?_
    exact e_I E hW rfl ⟨⟨_, rfl, trivial⟩, hF⟩ dX7_sacksOf_34
  · have r1379623 : RK kp L a1379622 6 := k1379620 _ rfl
    have hl : lv_has ls 4 [(0, .ref h0), (1, .int u1), (2, .int u2)] := hl
    show W p l e ({ frames := 1, cells := 0, slots := 0, locals := 40 }) s m ([.ref h0, .int u1, .int u2] : List Value).toArray below meth c _ _ 0 0 (MQ below (QT (po_X7_sacksOf kp L f0 h0 u1 u2) G cI cJ cZ cD cR cT A kp L) ([.ref h0, .int u1, .int u2] : List Value).toArray s 0 0 A) (F0 m 6 ls [.ref a1379622])
    refine lv_astore_n (lv' := [(3, .ref a1379622), (0, .ref h0), (1, .int u1), (2, .int u2)]) hx hb dX7_sacksOf_6 rfl hl (by decide) rfl (fun ls hl => ?_)
    refine lv_aload_n hx hb dX7_sacksOf_7 rfl (lv_at hl 0 rfl) ?_
    refine lv_ifnull hx hb dX7_sacksOf_8 ?_
    refine lv_iload_n hx hb dX7_sacksOf_11 rfl (lv_at hl 2 rfl) ?_
    refine lv_aload_n hx hb dX7_sacksOf_12 rfl (lv_at hl 0 rfl) ?_
    refine fg_RX7_33 E hW r1379623 dX7_sacksOf_13 (fun y1379624 m1379625 b1379626 => ?_)
    refine q_icmp_lt (tgt := 33) hx hb dX7_sacksOf_16 (by decide) rfl rfl (fun c1379627 => ?_) (fun c1379627 => ?_)
    · refine lv_iconst (v := (-1)) hx hb dX7_sacksOf_33 (by decide) ?_
      exact e_I E hW rfl ⟨⟨_, rfl, trivial⟩, hF⟩ dX7_sacksOf_34
    · refine lv_iload_n hx hb dX7_sacksOf_19 rfl (lv_at hl 2 rfl) ?_
      refine lv_aload_n hx hb dX7_sacksOf_20 rfl (lv_at hl 0 rfl) ?_
      refine fg_RX7_33 E hW r1379623 dX7_sacksOf_21 (fun y1379628 m1379629 b1379630 => ?_)
      obtain rfl : y1379624 = y1379628 := (m1379625).symm.trans m1379629
      refine q_isub hx hb dX7_sacksOf_24 rfl rfl (by omega) (fun x1379631 h1379632 => ?_)
      refine lv_aload_n hx hb dX7_sacksOf_25 rfl (lv_at hl 0 rfl) ?_
      refine fg_RX7_37 E hW r1379623 dX7_sacksOf_26 (fun a1379633 m1379634 r1379635 => ?_)
      have h1379638 : aN (f0 a1379633) ≤ 400 := (th_len hW r1379635 (by decide)).1 rfl
      refine r_alen E hW r1379635 (by decide) dX7_sacksOf_29 (fun n1379636 h1379637 => ?_) (by omega)
      refine q_icmp_lt (tgt := 35) hx hb dX7_sacksOf_30 (by decide) rfl rfl (fun c1379639 => ?_) (fun c1379639 => ?_)
      · refine lv_aload_n hx hb dX7_sacksOf_35 rfl (lv_at hl 0 rfl) ?_
        refine fg_RX7_37 E hW r1379623 dX7_sacksOf_36 (fun a1379640 m1379641 r1379642 => ?_)
        obtain rfl : a1379633 = a1379640 := (m1379634).symm.trans m1379641
        refine lv_iload_n hx hb dX7_sacksOf_39 rfl (lv_at hl 2 rfl) ?_
        refine lv_aload_n hx hb dX7_sacksOf_40 rfl (lv_at hl 0 rfl) ?_
        refine fg_RX7_33 E hW r1379623 dX7_sacksOf_41 (fun y1379643 m1379644 b1379645 => ?_)
        obtain rfl : y1379624 = y1379643 := (m1379629).symm.trans m1379644
        refine q_isub hx hb dX7_sacksOf_44 rfl rfl (by omega) (fun x1379646 h1379647 => ?_)
        refine gl_461 E hW r1379635 (by rw [(show aN (f0 a1379633) = n1379636.toInt.toNat by omega)]; omega) dX7_sacksOf_45 (fun y1379648 m1379649 => ?_)
        exact e_I E hW rfl ⟨⟨_, rfl, trivial⟩, hF⟩ dX7_sacksOf_46
      · refine lv_iconst (v := (-1)) hx hb dX7_sacksOf_33 (by decide) ?_
        exact e_I E hW rfl ⟨⟨_, rfl, trivial⟩, hF⟩ dX7_sacksOf_34
def ms_X3_addOffer : List (Nat × Nat) := [(3, 3), (284, 0), (285, 0)]
def po_X3_addOffer (kp : Nat → Nat) (L : List Nat) (f0 : Nat → va_E) (h0 : Nat) (u1 : Int32) (u2 : Int32) : Option Value → (Nat → va_E) → Prop := fun v f => (∃ r : Int32, v = some (.int r) ∧ ((-1 : Int) ≤ r.toInt ∧ r.toInt ≤ 9)) ∧ FM kp L ms_X3_addOffer f0 f
set_option maxHeartbeats 4000000 in
set_option maxRecDepth 100000 in
theorem c_X3_addOffer (l : Launch) (G : va_G) (cI cJ cZ cD cR cT : ClassId) (kp : Nat → Nat) (L : List Nat) (f0 : Nat → va_E) (hTH : TH cI cJ cZ cD cR cT kp L f0) (sz : Nat) (h0 : Nat) (u1 : Int32) (u2 : Int32) (rh0 : RK kp L h0 3) (pu1 : (-1000 : Int) ≤ u1.toInt ∧ u1.toInt ≤ 1000) (pu2 : (-1000 : Int) ≤ u2.toInt ∧ u2.toInt ≤ 1000) : Met l yX3_addOffer (Cond.code yX3_addOffer cX3_addOffer 3 (some .int) :: wTab) ({ frames := 1, cells := 0, slots := 0, locals := 40 }) (va_Pc [.ref h0, .int u1, .int u2] (PreW G (tys6 cI cJ cZ cD cR cT) (va_pl L f0) sz)) (QT (po_X3_addOffer kp L f0 h0 u1 u2) G cI cJ cZ cD cR cT (va_A (va_pl L f0) sz) kp L) 0 0 (va_A (va_pl L f0) sz) := by
  refine metT (by decide) (Nat.le_of_ble_eq_true rfl) hTH ?_
  intro p e s m below meth c A ls E hW hl
  obtain ⟨hx, hb, -, hml, hown, hts, -, -, -⟩ := id E
  have hF : FM kp L ms_X3_addOffer f0 f0 := FM.rf
  have hl : lv_has ls 3 [(0, .ref h0), (1, .int u1), (2, .int u2)] := hl
  refine lv_aload_n hx hb dX3_addOffer_0 rfl (lv_at hl 0 rfl) ?_
  refine fg_RX3_22 E hW rh0 dX3_addOffer_1 (fun y1379651 m1379652 b1379653 => ?_)
  refine lv_bipush (v := 9) hx hb dX3_addOffer_4 (by decide) ?_
  refine q_icmp_lt (Y := 9) (tgt := 11) hx hb dX3_addOffer_6 (by decide) rfl rfl (fun c1379654 => ?_) (fun c1379654 => ?_)
  · refine lv_aload_n hx hb dX3_addOffer_11 rfl (lv_at hl 0 rfl) ?_
    refine fg_RX3_15 E hW rh0 dX3_addOffer_12 (fun a1379655 m1379656 r1379657 => ?_)
    refine lv_aload_n hx hb dX3_addOffer_15 rfl (lv_at hl 0 rfl) ?_
    refine fg_RX3_22 E hW rh0 dX3_addOffer_16 (fun y1379658 m1379659 b1379660 => ?_)
    obtain rfl : y1379651 = y1379658 := (m1379652).symm.trans m1379659
    refine lv_iload_n hx hb dX3_addOffer_19 rfl (lv_at hl 1 rfl) ?_
    refine gs_284 E hW r1379657 ⟨by omega, by omega⟩ dX3_addOffer_20 (fun f1379661 H locs e1379662 n1379663 g1379664 hW => ?_)
    have hF := FM.tr hF g1379664 rfl
    refine lv_aload_n hx hb dX3_addOffer_21 rfl (lv_at hl 0 rfl) ?_
    refine fg_RX3_19 E hW rh0 dX3_addOffer_22 (fun a1379665 m1379666 r1379667 => ?_)
    refine lv_aload_n hx hb dX3_addOffer_25 rfl (lv_at hl 0 rfl) ?_
    refine fg_RX3_22 E hW rh0 dX3_addOffer_26 (fun y1379668 m1379669 b1379670 => ?_)
    obtain rfl : y1379651 = y1379668 := (((fm_I g1379664 rh0 rfl).trans m1379659)).symm.trans m1379669
    refine lv_iload_n hx hb dX3_addOffer_29 rfl (lv_at hl 2 rfl) ?_
    refine gs_285 E hW r1379667 ⟨by omega, by omega⟩ dX3_addOffer_30 (fun f1379671 H locs e1379672 n1379673 g1379674 hW => ?_)
    have hF := FM.tr hF g1379674 rfl
    refine lv_aload_n hx hb dX3_addOffer_31 rfl (lv_at hl 0 rfl) ?_
    refine lv_dup hx hb dX3_addOffer_32 rfl ?_
    refine fg_RX3_22 E hW rh0 dX3_addOffer_33 (fun y1379675 m1379676 b1379677 => ?_)
    obtain rfl : y1379651 = y1379675 := (((fm_I g1379674 rh0 rfl).trans m1379669)).symm.trans m1379676
    refine lv_iconst (v := 1) hx hb dX3_addOffer_36 (by decide) ?_
    refine q_iadd (Y := 1) hx hb dX3_addOffer_37 rfl rfl (by omega) (fun x1379678 h1379679 => ?_)
    refine fp_RX3_22 E hW rh0 (by omega) dX3_addOffer_38 (fun f1379680 H locs e1379681 n1379682 g1379683 hW => ?_)
    have hF := FM.tr hF g1379683 rfl
    refine lv_aload_n hx hb dX3_addOffer_41 rfl (lv_at hl 0 rfl) ?_
    refine fg_RX3_22 E hW rh0 dX3_addOffer_42 (fun y1379684 m1379685 b1379686 => ?_)
    obtain rfl : x1379678 = y1379684 := (e1379681).symm.trans m1379685
    exact e_I E hW rfl ⟨⟨_, rfl, (by first | omega | trivial)⟩, hF⟩ dX3_addOffer_45
  · refine lv_iconst (v := (-1)) hx hb dX3_addOffer_9 (by decide) ?_
    exact e_I E hW rfl ⟨⟨_, rfl, (by have hk : ((-1) : Int32).toInt = -1 := rfl; first | decide | omega)⟩, hF⟩ dX3_addOffer_10
def ms_X3_sumOf_l : List (Nat × Nat) := []
def po_X3_sumOf_l (kp : Nat → Nat) (L : List Nat) (f0 : Nat → va_E) (h0 : Nat) (u1 : Int32) (u2 : Nat) : Option Value → (Nat → va_E) → Prop := fun v f => (∃ r : Int32, v = some (.int r) ∧ (True)) ∧ FM kp L ms_X3_sumOf_l f0 f
set_option maxHeartbeats 4000000 in
set_option maxRecDepth 100000 in
theorem c_X3_sumOf_l (l : Launch) (G : va_G) (cI cJ cZ cD cR cT : ClassId) (kp : Nat → Nat) (L : List Nat) (f0 : Nat → va_E) (hTH : TH cI cJ cZ cD cR cT kp L f0) (sz : Nat) (h0 : Nat) (u1 : Int32) (u2 : Nat) (rh0 : RK kp L h0 3) (ru2 : RK kp L u2 284) (pu1 : (0 : Int) ≤ u1.toInt) : Met l yX3_sumOf (Cond.code yX3_sumOf cX3_sumOf 5 (some .int) :: wTab) ({ frames := 1, cells := 0, slots := 0, locals := 40 }) (va_Pc [.ref h0, .int u1, .ref u2] (PreW G (tys6 cI cJ cZ cD cR cT) (va_pl L f0) sz)) (QT (po_X3_sumOf_l kp L f0 h0 u1 u2) G cI cJ cZ cD cR cT (va_A (va_pl L f0) sz) kp L) 0 0 (va_A (va_pl L f0) sz) := by
  refine metT (by decide) (Nat.le_of_ble_eq_true rfl) hTH ?_
  intro p e s m below meth c A ls E hW hl
  obtain ⟨hx, hb, -, hml, hown, hts, -, -, -⟩ := id E
  have hF : FM kp L ms_X3_sumOf_l f0 f0 := FM.rf
  have hl : lv_has ls 5 [(0, .ref h0), (1, .int u1), (2, .ref u2)] := hl
  refine lv_iconst (v := 0) hx hb dX3_sumOf_0 (by decide) ?_
  refine lv_istore_n (lv' := [(3, .int 0), (0, .ref h0), (1, .int u1), (2, .ref u2)]) hx hb dX3_sumOf_1 rfl hl (by decide) rfl (fun ls hl => ?_)
  refine lv_iconst (v := 0) hx hb dX3_sumOf_2 (by decide) ?_
  refine lv_istore (lv' := [(4, .int 0), (3, .int 0), (0, .ref h0), (1, .int u1), (2, .ref u2)]) hx hb dX3_sumOf_3 hl (by decide) rfl (fun ls hl => ?_)
  have L1379943 : ∀ (n : Nat), ∀ (y1379940 : Int32) (y1379942 : Int32) (b1379941 : (0 : Int) ≤ y1379940.toInt ∧ y1379940.toInt ≤ 9) (hm : (10 : Int) - y1379940.toInt ≤ n) (H : Heap) (locs : List Loc) (ls : Array Slot), WS G cI cJ cZ cD cR cT A kp L f0 s H locs → FM kp L ms_X3_sumOf_l f0 f0 → lv_has ls 5 [(4, .int y1379940), (3, .int y1379942), (0, .ref h0), (1, .int u1), (2, .ref u2)] → W p l e ({ frames := 1, cells := 0, slots := 0, locals := 40 }) s m ([.ref h0, .int u1, .ref u2] : List Value).toArray below meth c H locs 0 0 (MQ below (QT (po_X3_sumOf_l kp L f0 h0 u1 u2) G cI cJ cZ cD cR cT A kp L) ([.ref h0, .int u1, .ref u2] : List Value).toArray s 0 0 A) (F0 m 5 ls []) := by
    intro n
    induction n with
    | zero =>
      intro y1379940 y1379942 b1379941 hm H locs ls hW hF hl
      have hz := i32_b y1379940
      exfalso; omega
    | succ n ih =>
      intro y1379940 y1379942 b1379941 hm H locs ls hW hF hl
      have ih5 := ih
      refine lv_iload hx hb dX3_sumOf_5 (lv_at hl 0 rfl) ?_
      refine lv_aload_n hx hb dX3_sumOf_7 rfl (lv_at hl 2 rfl) ?_
      refine fg_RX3_22 E hW rh0 dX3_sumOf_8 (fun y1379944 m1379945 b1379946 => ?_)
      refine q_icmp_ge (tgt := 48) hx hb dX3_sumOf_11 (by decide) rfl rfl (fun c1379965 => ?_) (fun c1379965 => ?_)
      · refine lv_iload_n hx hb dX3_sumOf_48 rfl (lv_at hl 1 rfl) ?_
        exact e_I E hW rfl ⟨⟨_, rfl, trivial⟩, hF⟩ dX3_sumOf_49
      · refine lv_iload hx hb dX3_sumOf_14 (lv_at hl 0 rfl) ?_
        refine lv_aload_n hx hb dX3_sumOf_16 rfl (lv_at hl 4 rfl) ?_
        refine r_alen E hW ru2 (by decide) dX3_sumOf_17 (fun n1379966 h1379967 => ?_) (by rw [lenOk_n (th_len hW ru2 (by decide)) rfl (by decide)]; decide)
        rw [lenOk_n (th_len hW ru2 (by decide)) rfl (by decide)] at h1379967
        obtain rfl : (9 : Int32) = n1379966 := Int32.toInt_inj.mp (Eq.trans (by decide) h1379967.symm)
        refine q_icmp_ge (Y := 9) (tgt := 48) hx hb dX3_sumOf_18 (by decide) rfl rfl (fun c1379983 => ?_) (fun c1379983 => ?_)
        · exfalso; omega
        · refine lv_iload_n hx hb dX3_sumOf_21 rfl (lv_at hl 1 rfl) ?_
          refine lv_iload_n hx hb dX3_sumOf_22 rfl (lv_at hl 3 rfl) ?_
          refine lv_iload hx hb dX3_sumOf_23 (lv_at hl 0 rfl) ?_
          refine u_ishr hx hb dX3_sumOf_25 (fun x1379984 => ?_)
          refine lv_iconst (v := 1) hx hb dX3_sumOf_26 (by decide) ?_
          refine q_iand (M := 1) (k := 1) hx hb dX3_sumOf_27 (by decide) (by decide) (by decide) (fun x1379985 h1379986 => ?_)
          refine lv_iconst (v := 1) hx hb dX3_sumOf_28 (by decide) ?_
          have J1379991 : ∀ (y1379990 : Int32) (H : Heap) (locs : List Loc) (ls : Array Slot), WS G cI cJ cZ cD cR cT A kp L f0 s H locs → FM kp L ms_X3_sumOf_l f0 f0 → lv_has ls 5 [(4, .int y1379940), (3, .int y1379942), (0, .ref h0), (1, .int u1), (2, .ref u2)] → W p l e ({ frames := 1, cells := 0, slots := 0, locals := 40 }) s m ([.ref h0, .int u1, .ref u2] : List Value).toArray below meth c H locs 0 0 (MQ below (QT (po_X3_sumOf_l kp L f0 h0 u1 u2) G cI cJ cZ cD cR cT A kp L) ([.ref h0, .int u1, .ref u2] : List Value).toArray s 0 0 A) (F0 m 40 ls [.int y1379990, .int y1379942]) := by
            intro y1379990 H locs ls hW hF hl
            clear h1379986
            refine u_iadd hx hb dX3_sumOf_40 (fun x1379992 => ?_)
            refine lv_istore_n (lv' := [(3, .int x1379992), (4, .int y1379940), (0, .ref h0), (1, .int u1), (2, .ref u2)]) hx hb dX3_sumOf_41 rfl hl (by decide) rfl (fun ls hl => ?_)
            refine q_iinc hx hb dX3_sumOf_42 hl (k := 1) rfl rfl rfl (by omega) (by decide) (fun i1379993 ls h1379994 hl => ?_)
            have hl : lv_has ls 5 [(4, .int i1379993), (3, .int x1379992), (0, .ref h0), (1, .int u1), (2, .ref u2)] := hl
            refine lv_goto (tgt := 5) hx hb dX3_sumOf_45 (by decide) ?_
            exact ih5 i1379993 x1379992 (by omega) (by omega) _ _ _ hW hF (lv_sub hl [0, 1, 2, 3, 4] rfl)
          refine q_icmp_ne (Y := 1) (tgt := 39) hx hb dX3_sumOf_29 (by decide) rfl rfl (fun c1379995 => ?_) (fun c1379995 => ?_)
          · refine lv_iconst (v := 0) hx hb dX3_sumOf_39 (by decide) ?_
            exact J1379991 0  _ _ _ hW hF (lv_sub hl [0, 1, 2, 3, 4] rfl)
          · refine lv_aload_n hx hb dX3_sumOf_32 rfl (lv_at hl 4 rfl) ?_
            refine lv_iload hx hb dX3_sumOf_33 (lv_at hl 0 rfl) ?_
            refine gl_284 E hW ru2 ⟨by omega, by omega⟩ dX3_sumOf_35 (fun y1379996 m1379997 => ?_)
            refine lv_goto (tgt := 40) hx hb dX3_sumOf_36 (by decide) ?_
            exact J1379991 y1379996  _ _ _ hW hF (lv_sub hl [0, 1, 2, 3, 4] rfl)
  have hk1379999 : (0 : Int32).toInt = 0 := rfl
  have hk1380000 : (0 : Int32).toInt = 0 := rfl
  exact L1379943 10 0 0 (by decide) (by omega) _ _ _ hW hF (lv_sub hl [0, 1, 2, 3, 4] rfl)
def ms_X3_sumOf_o : List (Nat × Nat) := []
def po_X3_sumOf_o (kp : Nat → Nat) (L : List Nat) (f0 : Nat → va_E) (h0 : Nat) (u1 : Int32) (u2 : Nat) : Option Value → (Nat → va_E) → Prop := fun v f => (∃ r : Int32, v = some (.int r) ∧ (True)) ∧ FM kp L ms_X3_sumOf_o f0 f
set_option maxHeartbeats 4000000 in
set_option maxRecDepth 100000 in
theorem c_X3_sumOf_o (l : Launch) (G : va_G) (cI cJ cZ cD cR cT : ClassId) (kp : Nat → Nat) (L : List Nat) (f0 : Nat → va_E) (hTH : TH cI cJ cZ cD cR cT kp L f0) (sz : Nat) (h0 : Nat) (u1 : Int32) (u2 : Nat) (rh0 : RK kp L h0 3) (ru2 : RK kp L u2 285) (pu1 : (0 : Int) ≤ u1.toInt) : Met l yX3_sumOf (Cond.code yX3_sumOf cX3_sumOf 5 (some .int) :: wTab) ({ frames := 1, cells := 0, slots := 0, locals := 40 }) (va_Pc [.ref h0, .int u1, .ref u2] (PreW G (tys6 cI cJ cZ cD cR cT) (va_pl L f0) sz)) (QT (po_X3_sumOf_o kp L f0 h0 u1 u2) G cI cJ cZ cD cR cT (va_A (va_pl L f0) sz) kp L) 0 0 (va_A (va_pl L f0) sz) := by
  refine metT (by decide) (Nat.le_of_ble_eq_true rfl) hTH ?_
  intro p e s m below meth c A ls E hW hl
  obtain ⟨hx, hb, -, hml, hown, hts, -, -, -⟩ := id E
  have hF : FM kp L ms_X3_sumOf_o f0 f0 := FM.rf
  have hl : lv_has ls 5 [(0, .ref h0), (1, .int u1), (2, .ref u2)] := hl
  refine lv_iconst (v := 0) hx hb dX3_sumOf_0 (by decide) ?_
  refine lv_istore_n (lv' := [(3, .int 0), (0, .ref h0), (1, .int u1), (2, .ref u2)]) hx hb dX3_sumOf_1 rfl hl (by decide) rfl (fun ls hl => ?_)
  refine lv_iconst (v := 0) hx hb dX3_sumOf_2 (by decide) ?_
  refine lv_istore (lv' := [(4, .int 0), (3, .int 0), (0, .ref h0), (1, .int u1), (2, .ref u2)]) hx hb dX3_sumOf_3 hl (by decide) rfl (fun ls hl => ?_)
  have L1380257 : ∀ (n : Nat), ∀ (y1380254 : Int32) (y1380256 : Int32) (b1380255 : (0 : Int) ≤ y1380254.toInt ∧ y1380254.toInt ≤ 9) (hm : (10 : Int) - y1380254.toInt ≤ n) (H : Heap) (locs : List Loc) (ls : Array Slot), WS G cI cJ cZ cD cR cT A kp L f0 s H locs → FM kp L ms_X3_sumOf_o f0 f0 → lv_has ls 5 [(4, .int y1380254), (3, .int y1380256), (0, .ref h0), (1, .int u1), (2, .ref u2)] → W p l e ({ frames := 1, cells := 0, slots := 0, locals := 40 }) s m ([.ref h0, .int u1, .ref u2] : List Value).toArray below meth c H locs 0 0 (MQ below (QT (po_X3_sumOf_o kp L f0 h0 u1 u2) G cI cJ cZ cD cR cT A kp L) ([.ref h0, .int u1, .ref u2] : List Value).toArray s 0 0 A) (F0 m 5 ls []) := by
    intro n
    induction n with
    | zero =>
      intro y1380254 y1380256 b1380255 hm H locs ls hW hF hl
      have hz := i32_b y1380254
      exfalso; omega
    | succ n ih =>
      intro y1380254 y1380256 b1380255 hm H locs ls hW hF hl
      have ih5 := ih
      refine lv_iload hx hb dX3_sumOf_5 (lv_at hl 0 rfl) ?_
      refine lv_aload_n hx hb dX3_sumOf_7 rfl (lv_at hl 2 rfl) ?_
      refine fg_RX3_22 E hW rh0 dX3_sumOf_8 (fun y1380258 m1380259 b1380260 => ?_)
      refine q_icmp_ge (tgt := 48) hx hb dX3_sumOf_11 (by decide) rfl rfl (fun c1380279 => ?_) (fun c1380279 => ?_)
      · refine lv_iload_n hx hb dX3_sumOf_48 rfl (lv_at hl 1 rfl) ?_
        exact e_I E hW rfl ⟨⟨_, rfl, trivial⟩, hF⟩ dX3_sumOf_49
      · refine lv_iload hx hb dX3_sumOf_14 (lv_at hl 0 rfl) ?_
        refine lv_aload_n hx hb dX3_sumOf_16 rfl (lv_at hl 4 rfl) ?_
        refine r_alen E hW ru2 (by decide) dX3_sumOf_17 (fun n1380280 h1380281 => ?_) (by rw [lenOk_n (th_len hW ru2 (by decide)) rfl (by decide)]; decide)
        rw [lenOk_n (th_len hW ru2 (by decide)) rfl (by decide)] at h1380281
        obtain rfl : (9 : Int32) = n1380280 := Int32.toInt_inj.mp (Eq.trans (by decide) h1380281.symm)
        refine q_icmp_ge (Y := 9) (tgt := 48) hx hb dX3_sumOf_18 (by decide) rfl rfl (fun c1380297 => ?_) (fun c1380297 => ?_)
        · exfalso; omega
        · refine lv_iload_n hx hb dX3_sumOf_21 rfl (lv_at hl 1 rfl) ?_
          refine lv_iload_n hx hb dX3_sumOf_22 rfl (lv_at hl 3 rfl) ?_
          refine lv_iload hx hb dX3_sumOf_23 (lv_at hl 0 rfl) ?_
          refine u_ishr hx hb dX3_sumOf_25 (fun x1380298 => ?_)
          refine lv_iconst (v := 1) hx hb dX3_sumOf_26 (by decide) ?_
          refine q_iand (M := 1) (k := 1) hx hb dX3_sumOf_27 (by decide) (by decide) (by decide) (fun x1380299 h1380300 => ?_)
          refine lv_iconst (v := 1) hx hb dX3_sumOf_28 (by decide) ?_
          have J1380305 : ∀ (y1380304 : Int32) (H : Heap) (locs : List Loc) (ls : Array Slot), WS G cI cJ cZ cD cR cT A kp L f0 s H locs → FM kp L ms_X3_sumOf_o f0 f0 → lv_has ls 5 [(4, .int y1380254), (3, .int y1380256), (0, .ref h0), (1, .int u1), (2, .ref u2)] → W p l e ({ frames := 1, cells := 0, slots := 0, locals := 40 }) s m ([.ref h0, .int u1, .ref u2] : List Value).toArray below meth c H locs 0 0 (MQ below (QT (po_X3_sumOf_o kp L f0 h0 u1 u2) G cI cJ cZ cD cR cT A kp L) ([.ref h0, .int u1, .ref u2] : List Value).toArray s 0 0 A) (F0 m 40 ls [.int y1380304, .int y1380256]) := by
            intro y1380304 H locs ls hW hF hl
            clear h1380300
            refine u_iadd hx hb dX3_sumOf_40 (fun x1380306 => ?_)
            refine lv_istore_n (lv' := [(3, .int x1380306), (4, .int y1380254), (0, .ref h0), (1, .int u1), (2, .ref u2)]) hx hb dX3_sumOf_41 rfl hl (by decide) rfl (fun ls hl => ?_)
            refine q_iinc hx hb dX3_sumOf_42 hl (k := 1) rfl rfl rfl (by omega) (by decide) (fun i1380307 ls h1380308 hl => ?_)
            have hl : lv_has ls 5 [(4, .int i1380307), (3, .int x1380306), (0, .ref h0), (1, .int u1), (2, .ref u2)] := hl
            refine lv_goto (tgt := 5) hx hb dX3_sumOf_45 (by decide) ?_
            exact ih5 i1380307 x1380306 (by omega) (by omega) _ _ _ hW hF (lv_sub hl [0, 1, 2, 3, 4] rfl)
          refine q_icmp_ne (Y := 1) (tgt := 39) hx hb dX3_sumOf_29 (by decide) rfl rfl (fun c1380309 => ?_) (fun c1380309 => ?_)
          · refine lv_iconst (v := 0) hx hb dX3_sumOf_39 (by decide) ?_
            exact J1380305 0  _ _ _ hW hF (lv_sub hl [0, 1, 2, 3, 4] rfl)
          · refine lv_aload_n hx hb dX3_sumOf_32 rfl (lv_at hl 4 rfl) ?_
            refine lv_iload hx hb dX3_sumOf_33 (lv_at hl 0 rfl) ?_
            refine gl_285 E hW ru2 ⟨by omega, by omega⟩ dX3_sumOf_35 (fun y1380310 m1380311 => ?_)
            refine lv_goto (tgt := 40) hx hb dX3_sumOf_36 (by decide) ?_
            exact J1380305 y1380310  _ _ _ hW hF (lv_sub hl [0, 1, 2, 3, 4] rfl)
  have hk1380313 : (0 : Int32).toInt = 0 := rfl
  have hk1380314 : (0 : Int32).toInt = 0 := rfl
  exact L1380257 10 0 0 (by decide) (by omega) _ _ _ hW hF (lv_sub hl [0, 1, 2, 3, 4] rfl)
def ms_X3_bestSet : List (Nat × Nat) := []
def po_X3_bestSet (kp : Nat → Nat) (L : List Nat) (f0 : Nat → va_E) (h0 : Nat) (u1 : Int32) (u2 : Int32) : Option Value → (Nat → va_E) → Prop := fun v f => (∃ r : Int32, v = some (.int r) ∧ ((-1 : Int) ≤ r.toInt)) ∧ FM kp L ms_X3_bestSet f0 f
set_option maxHeartbeats 4000000 in
set_option maxRecDepth 100000 in
theorem c_X3_bestSet (l : Launch) (G : va_G) (cI cJ cZ cD cR cT : ClassId) (kp : Nat → Nat) (L : List Nat) (f0 : Nat → va_E) (hTH : TH cI cJ cZ cD cR cT kp L f0) (sz : Nat) (h0 : Nat) (u1 : Int32) (u2 : Int32) (rh0 : RK kp L h0 3) (pu1 : (-10000 : Int) ≤ u1.toInt ∧ u1.toInt ≤ 10000) (pu2 : (-10000 : Int) ≤ u2.toInt ∧ u2.toInt ≤ 10000) : Met l yX3_bestSet (Cond.code yX3_bestSet cX3_bestSet 9 (some .int) :: wTab) ({ frames := 2, cells := 0, slots := 0, locals := 64 }) (va_Pc [.ref h0, .int u1, .int u2] (PreW G (tys6 cI cJ cZ cD cR cT) (va_pl L f0) sz)) (QT (po_X3_bestSet kp L f0 h0 u1 u2) G cI cJ cZ cD cR cT (va_A (va_pl L f0) sz) kp L) 0 0 (va_A (va_pl L f0) sz) := by
  refine metT (by decide) (Nat.le_of_ble_eq_true rfl) hTH ?_
  intro p e s m below meth c A ls E hW hl
  obtain ⟨hx, hb, -, hml, hown, hts, -, -, -⟩ := id E
  have hF : FM kp L ms_X3_bestSet f0 f0 := FM.rf
  have hl : lv_has ls 9 [(0, .ref h0), (1, .int u1), (2, .int u2)] := hl
  refine lv_iconst (v := (-1)) hx hb dX3_bestSet_0 (by decide) ?_
  refine lv_istore_n (lv' := [(3, .int (-1)), (0, .ref h0), (1, .int u1), (2, .int u2)]) hx hb dX3_bestSet_1 rfl hl (by decide) rfl (fun ls hl => ?_)
  refine lv_iconst (v := 0) hx hb dX3_bestSet_2 (by decide) ?_
  refine lv_istore (lv' := [(4, .int 0), (3, .int (-1)), (0, .ref h0), (1, .int u1), (2, .int u2)]) hx hb dX3_bestSet_3 hl (by decide) rfl (fun ls hl => ?_)
  refine lv_iconst (v := 0) hx hb dX3_bestSet_5 (by decide) ?_
  refine lv_istore (lv' := [(5, .int 0), (4, .int 0), (3, .int (-1)), (0, .ref h0), (1, .int u1), (2, .int u2)]) hx hb dX3_bestSet_6 hl (by decide) rfl (fun ls hl => ?_)
  have L1388468 : ∀ (n : Nat), ∀ (f1388462 : Nat → va_E) (y1388463 : Int32) (y1388465 : Int32) (y1388466 : Int32) (b1388464 : (0 : Int) ≤ y1388463.toInt) (b1388467 : (-1 : Int) ≤ y1388466.toInt) (hm : (2147483648 : Int) - y1388463.toInt ≤ n) (H : Heap) (locs : List Loc) (ls : Array Slot), WS G cI cJ cZ cD cR cT A kp L f1388462 s H locs → FM kp L ms_X3_bestSet f0 f1388462 → lv_has ls 9 [(5, .int y1388463), (4, .int y1388465), (3, .int y1388466), (0, .ref h0), (1, .int u1), (2, .int u2)] → W p l e ({ frames := 2, cells := 0, slots := 0, locals := 64 }) s m ([.ref h0, .int u1, .int u2] : List Value).toArray below meth c H locs 0 0 (MQ below (QT (po_X3_bestSet kp L f0 h0 u1 u2) G cI cJ cZ cD cR cT A kp L) ([.ref h0, .int u1, .int u2] : List Value).toArray s 0 0 A) (F0 m 8 ls []) := by
    intro n
    induction n with
    | zero =>
      intro f1388462 y1388463 y1388465 y1388466 b1388464 b1388467 hm H locs ls hW hF hl
      have hz := i32_b y1388463
      exfalso; omega
    | succ n ih =>
      intro f1388462 y1388463 y1388465 y1388466 b1388464 b1388467 hm H locs ls hW hF hl
      have ih8 := ih
      refine lv_iload hx hb dX3_bestSet_8 (lv_at hl 0 rfl) ?_
      refine lv_iconst (v := 1) hx hb dX3_bestSet_10 (by decide) ?_
      refine lv_aload_n hx hb dX3_bestSet_11 rfl (lv_at hl 3 rfl) ?_
      refine fg_RX3_22 E hW rh0 dX3_bestSet_12 (fun y1388469 m1388470 b1388471 => ?_)
      refine u_ishl hx hb dX3_bestSet_15 (fun x1388472 => ?_)
      refine q_icmp_ge (tgt := 115) hx hb dX3_bestSet_16 (by decide) rfl rfl (fun c1388592 => ?_) (fun c1388592 => ?_)
      · refine lv_iload_n hx hb dX3_bestSet_115 rfl (lv_at hl 2 rfl) ?_
        exact e_I E hW rfl ⟨⟨_, rfl, (by first | omega | trivial)⟩, hF⟩ dX3_bestSet_116
      · have hb1388593 : y1388463.toInt ≤ 2147483646 := by have := i32_b x1388472; omega
        refine lv_aload_n hx hb dX3_bestSet_19 rfl (lv_at hl 3 rfl) ?_
        refine lv_iload hx hb dX3_bestSet_20 (lv_at hl 0 rfl) ?_
        refine lv_aload_n hx hb dX3_bestSet_22 rfl (lv_at hl 3 rfl) ?_
        refine fg_RX3_15 E hW rh0 dX3_bestSet_23 (fun a1388594 m1388595 r1388596 => ?_)
        refine t_callV (As := [.int y1388463, .ref a1388594]) (rest := []) E hW (c_X3_sumOf_l l G cI cJ cZ cD cR cT kp L f1388462 hW.2.2.2 _ h0 y1388463 a1388594 rh0 r1388596 (by omega)) rh0 (by decide) rfl wk_X3_sumOf tw_1242 rfl ⟨Nat.le_of_ble_eq_true rfl, Nat.le_of_ble_eq_true rfl⟩ ⟨rfl, rfl⟩ hl.1 rfl (Nat.le_of_ble_eq_true rfl) dX3_bestSet_26 ⟨Nat.le_of_ble_eq_true rfl, Nat.le_of_ble_eq_true rfl⟩ (fun v1388597 f1388598 H locs q1388599 hW => ?_)
        obtain ⟨⟨x1388601, rfl, p1388602⟩, g1388600⟩ := q1388599
        clear p1388602
        have hF := FM.tr hF g1388600 rfl
        refine lv_istore (lv' := [(6, .int x1388601), (5, .int y1388463), (4, .int y1388465), (3, .int y1388466), (0, .ref h0), (1, .int u1), (2, .int u2)]) hx hb dX3_bestSet_29 hl (by decide) rfl (fun ls hl => ?_)
        refine lv_aload_n hx hb dX3_bestSet_31 rfl (lv_at hl 4 rfl) ?_
        refine lv_iload hx hb dX3_bestSet_32 (lv_at hl 1 rfl) ?_
        refine lv_aload_n hx hb dX3_bestSet_34 rfl (lv_at hl 4 rfl) ?_
        refine fg_RX3_19 E hW rh0 dX3_bestSet_35 (fun a1388603 m1388604 r1388605 => ?_)
        refine t_callV (As := [.int y1388463, .ref a1388603]) (rest := []) E hW (c_X3_sumOf_o l G cI cJ cZ cD cR cT kp L f1388598 hW.2.2.2 _ h0 y1388463 a1388603 rh0 r1388605 (by omega)) rh0 (by decide) rfl wk_X3_sumOf tw_1242 rfl ⟨Nat.le_of_ble_eq_true rfl, Nat.le_of_ble_eq_true rfl⟩ ⟨rfl, rfl⟩ hl.1 rfl (Nat.le_of_ble_eq_true rfl) dX3_bestSet_38 ⟨Nat.le_of_ble_eq_true rfl, Nat.le_of_ble_eq_true rfl⟩ (fun v1388606 f1388607 H locs q1388608 hW => ?_)
        obtain ⟨⟨x1388610, rfl, p1388611⟩, g1388609⟩ := q1388608
        clear p1388611
        have hF := FM.tr hF g1388609 rfl
        refine lv_istore (lv' := [(7, .int x1388610), (6, .int x1388601), (5, .int y1388463), (4, .int y1388465), (3, .int y1388466), (0, .ref h0), (1, .int u1), (2, .int u2)]) hx hb dX3_bestSet_41 hl (by decide) rfl (fun ls hl => ?_)
        refine lv_iload hx hb dX3_bestSet_43 (lv_at hl 1 rfl) ?_
        refine lv_iload_n hx hb dX3_bestSet_45 rfl (lv_at hl 6 rfl) ?_
        have J1388664 : ∀ (f1388657 : Nat → va_E) (y1388661 : Int32) (y1388662 : Int32) (m1388658 : oI (f1388657 h0) 3 = y1388469) (m1388659 : oR (f1388657 h0) 4 = a1388594) (m1388660 : oR (f1388657 h0) 5 = a1388603) (b1388663 : (-1 : Int) ≤ y1388662.toInt) (H : Heap) (locs : List Loc) (ls : Array Slot), WS G cI cJ cZ cD cR cT A kp L f1388657 s H locs → FM kp L ms_X3_bestSet f0 f1388657 → lv_has ls 9 [(7, .int x1388610), (6, .int x1388601), (5, .int y1388463), (4, .int y1388661), (3, .int y1388662), (0, .ref h0), (1, .int u1), (2, .int u2)] → W p l e ({ frames := 2, cells := 0, slots := 0, locals := 64 }) s m ([.ref h0, .int u1, .int u2] : List Value).toArray below meth c H locs 0 0 (MQ below (QT (po_X3_bestSet kp L f0 h0 u1 u2) G cI cJ cZ cD cR cT A kp L) ([.ref h0, .int u1, .int u2] : List Value).toArray s 0 0 A) (F0 m 109 ls []) := by
          intro f1388657 y1388661 y1388662 m1388658 m1388659 m1388660 b1388663 H locs ls hW hF hl
          clear b1388467
          refine q_iinc hx hb dX3_bestSet_109 hl (k := 2) rfl rfl rfl (by omega) (by decide) (fun i1388665 ls h1388666 hl => ?_)
          have hl : lv_has ls 9 [(5, .int i1388665), (7, .int x1388610), (6, .int x1388601), (4, .int y1388661), (3, .int y1388662), (0, .ref h0), (1, .int u1), (2, .int u2)] := hl
          refine lv_goto (tgt := 8) hx hb dX3_bestSet_112 (by decide) ?_
          exact ih8 f1388657 i1388665 y1388661 y1388662 (by omega) (by omega) (by omega) _ _ _ hW hF (lv_sub hl [0, 3, 4, 5, 6, 7] rfl)
        refine q_icmp_lt (tgt := 109) hx hb dX3_bestSet_46 (by decide) rfl rfl (fun c1388667 => ?_) (fun c1388667 => ?_)
        · exact J1388664 f1388607 y1388465 y1388466 ((fm_I g1388609 rh0 rfl).trans ((fm_I g1388600 rh0 rfl).trans m1388470)) ((fm_R g1388609 rh0 rfl).trans ((fm_R g1388600 rh0 rfl).trans m1388595)) ((fm_R g1388609 rh0 rfl).trans m1388604) (by omega) _ _ _ hW hF (lv_sub hl [0, 1, 2, 3, 4, 5, 6, 7] rfl)
        · refine lv_iload hx hb dX3_bestSet_49 (lv_at hl 0 rfl) ?_
          refine lv_iload_n hx hb dX3_bestSet_51 rfl (lv_at hl 7 rfl) ?_
          refine q_icmp_ge (tgt := 58) hx hb dX3_bestSet_52 (by decide) rfl rfl (fun c1388668 => ?_) (fun c1388668 => ?_)
          · refine lv_iload_n hx hb dX3_bestSet_58 rfl (lv_at hl 4 rfl) ?_
            refine lv_iconst (v := (-1)) hx hb dX3_bestSet_59 (by decide) ?_
            have J1388689 : ∀ (f1388683 : Nat → va_E) (y1388687 : Int32) (m1388684 : oI (f1388683 h0) 3 = y1388469) (m1388685 : oR (f1388683 h0) 4 = a1388594) (m1388686 : oR (f1388683 h0) 5 = a1388603) (b1388688 : (-63 : Int) ≤ y1388687.toInt ∧ y1388687.toInt ≤ 63) (H : Heap) (locs : List Loc) (ls : Array Slot), WS G cI cJ cZ cD cR cT A kp L f1388683 s H locs → FM kp L ms_X3_bestSet f0 f1388683 → lv_has ls 9 [(7, .int x1388610), (6, .int x1388601), (5, .int y1388463), (4, .int y1388465), (3, .int y1388466), (0, .ref h0), (1, .int u1), (2, .int u2)] → W p l e ({ frames := 2, cells := 0, slots := 0, locals := 64 }) s m ([.ref h0, .int u1, .int u2] : List Value).toArray below meth c H locs 0 0 (MQ below (QT (po_X3_bestSet kp L f0 h0 u1 u2) G cI cJ cZ cD cR cT A kp L) ([.ref h0, .int u1, .int u2] : List Value).toArray s 0 0 A) (F0 m 77 ls [.int y1388687]) := by
              intro f1388683 y1388687 m1388684 m1388685 m1388686 b1388688 H locs ls hW hF hl
              refine lv_istore (lv' := [(8, .int y1388687), (7, .int x1388610), (6, .int x1388601), (5, .int y1388463), (4, .int y1388465), (3, .int y1388466), (0, .ref h0), (1, .int u1), (2, .int u2)]) hx hb dX3_bestSet_77 hl (by decide) rfl (fun ls hl => ?_)
              refine lv_iload hx hb dX3_bestSet_79 (lv_at hl 0 rfl) ?_
              refine q_if_gt (tgt := 99) hx hb dX3_bestSet_81 (by decide) rfl (fun c1388690 => ?_) (fun c1388690 => ?_)
              · refine lv_iload hx hb dX3_bestSet_99 (lv_at hl 3 rfl) ?_
                refine lv_istore_n (lv' := [(3, .int y1388463), (8, .int y1388687), (7, .int x1388610), (6, .int x1388601), (5, .int y1388463), (4, .int y1388465), (0, .ref h0), (1, .int u1), (2, .int u2)]) hx hb dX3_bestSet_101 rfl hl (by decide) rfl (fun ls hl => ?_)
                refine lv_iload hx hb dX3_bestSet_102 (lv_at hl 3 rfl) ?_
                refine lv_iload hx hb dX3_bestSet_104 (lv_at hl 2 rfl) ?_
                refine u_iadd hx hb dX3_bestSet_106 (fun x1388691 => ?_)
                refine lv_istore (lv' := [(4, .int x1388691), (3, .int y1388463), (8, .int y1388687), (7, .int x1388610), (6, .int x1388601), (5, .int y1388463), (0, .ref h0), (1, .int u1), (2, .int u2)]) hx hb dX3_bestSet_107 hl (by decide) rfl (fun ls hl => ?_)
                exact J1388664 f1388683 x1388691 y1388463 m1388684 m1388685 m1388686 (by omega) _ _ _ hW hF (lv_sub hl [3, 4, 5, 0, 1, 6, 7, 8] rfl)
              · refine lv_iload hx hb dX3_bestSet_84 (lv_at hl 0 rfl) ?_
                refine q_if_ne (tgt := 109) hx hb dX3_bestSet_86 (by decide) rfl (fun c1388692 => ?_) (fun c1388692 => ?_)
                · exact J1388664 f1388683 y1388465 y1388466 m1388684 m1388685 m1388686 (by omega) _ _ _ hW hF (lv_sub hl [1, 2, 3, 4, 5, 6, 7, 8] rfl)
                · refine lv_iload hx hb dX3_bestSet_89 (lv_at hl 2 rfl) ?_
                  refine lv_iload hx hb dX3_bestSet_91 (lv_at hl 1 rfl) ?_
                  refine u_iadd hx hb dX3_bestSet_93 (fun x1388693 => ?_)
                  refine lv_iload hx hb dX3_bestSet_94 (lv_at hl 4 rfl) ?_
                  refine q_icmp_le (tgt := 109) hx hb dX3_bestSet_96 (by decide) rfl rfl (fun c1388694 => ?_) (fun c1388694 => ?_)
                  · exact J1388664 f1388683 y1388465 y1388466 m1388684 m1388685 m1388686 (by omega) _ _ _ hW hF (lv_sub hl [1, 2, 3, 4, 5, 6, 7, 8] rfl)
                  · have hb1388695 : y1388465.toInt ≤ 2147483646 := by have := i32_b x1388693; omega
                    have hb1388696 : -2147483647 ≤ x1388693.toInt := by have := i32_b y1388465; omega
                    refine lv_iload hx hb dX3_bestSet_99 (lv_at hl 3 rfl) ?_
                    refine lv_istore_n (lv' := [(3, .int y1388463), (8, .int y1388687), (7, .int x1388610), (6, .int x1388601), (5, .int y1388463), (4, .int y1388465), (0, .ref h0), (1, .int u1), (2, .int u2)]) hx hb dX3_bestSet_101 rfl hl (by decide) rfl (fun ls hl => ?_)
                    refine lv_iload hx hb dX3_bestSet_102 (lv_at hl 3 rfl) ?_
                    refine lv_iload hx hb dX3_bestSet_104 (lv_at hl 2 rfl) ?_
                    refine u_iadd hx hb dX3_bestSet_106 (fun x1388697 => ?_)
                    refine lv_istore (lv' := [(4, .int x1388697), (3, .int y1388463), (8, .int y1388687), (7, .int x1388610), (6, .int x1388601), (5, .int y1388463), (0, .ref h0), (1, .int u1), (2, .int u2)]) hx hb dX3_bestSet_107 hl (by decide) rfl (fun ls hl => ?_)
                    exact J1388664 f1388683 x1388697 y1388463 m1388684 m1388685 m1388686 (by omega) _ _ _ hW hF (lv_sub hl [3, 4, 5, 0, 1, 6, 7, 8] rfl)
            refine q_icmp_ne (Y := -1) (tgt := 67) hx hb dX3_bestSet_60 (by decide) rfl rfl (fun c1388698 => ?_) (fun c1388698 => ?_)
            · refine lv_iload_n hx hb dX3_bestSet_67 rfl (lv_at hl 4 rfl) ?_
              refine t_callS (As := [.int y1388466]) (rest := []) E hW (c_J6_bitCount_0f7a4 l G cI cJ cZ cD cR cT kp L f1388607 hW.2.2.2 _ y1388466 (by omega)) wk_J6_bitCount_0f7a4 tw_1246 rfl ⟨Nat.le_of_ble_eq_true rfl, Nat.le_of_ble_eq_true rfl⟩ ⟨rfl, rfl⟩ hl.1 rfl (Nat.le_of_ble_eq_true rfl) dX3_bestSet_68 ⟨Nat.le_of_ble_eq_true rfl, Nat.le_of_ble_eq_true rfl⟩ (fun v1388699 f1388700 H locs q1388701 hW => ?_)
              obtain ⟨⟨x1388703, rfl, p1388704⟩, g1388702⟩ := q1388701
              have hF := FM.tr hF g1388702 rfl
              refine lv_iload hx hb dX3_bestSet_71 (lv_at hl 2 rfl) ?_
              refine t_callS (As := [.int y1388463]) (rest := [.int x1388703]) E hW (c_J6_bitCount_0f7a4 l G cI cJ cZ cD cR cT kp L f1388700 hW.2.2.2 _ y1388463 (by omega)) wk_J6_bitCount_0f7a4 tw_1246 rfl ⟨Nat.le_of_ble_eq_true rfl, Nat.le_of_ble_eq_true rfl⟩ ⟨rfl, rfl⟩ hl.1 rfl (Nat.le_of_ble_eq_true rfl) dX3_bestSet_73 ⟨Nat.le_of_ble_eq_true rfl, Nat.le_of_ble_eq_true rfl⟩ (fun v1388705 f1388706 H locs q1388707 hW => ?_)
              obtain ⟨⟨x1388709, rfl, p1388710⟩, g1388708⟩ := q1388707
              have hF := FM.tr hF g1388708 rfl
              refine q_isub hx hb dX3_bestSet_76 rfl rfl (by omega) (fun x1388711 h1388712 => ?_)
              exact J1388689 f1388706 x1388711 ((fm_I g1388708 rh0 rfl).trans ((fm_I g1388702 rh0 rfl).trans ((fm_I g1388609 rh0 rfl).trans ((fm_I g1388600 rh0 rfl).trans m1388470)))) ((fm_R g1388708 rh0 rfl).trans ((fm_R g1388702 rh0 rfl).trans ((fm_R g1388609 rh0 rfl).trans ((fm_R g1388600 rh0 rfl).trans m1388595)))) ((fm_R g1388708 rh0 rfl).trans ((fm_R g1388702 rh0 rfl).trans ((fm_R g1388609 rh0 rfl).trans m1388604))) (by omega) _ _ _ hW hF (lv_sub hl [0, 1, 2, 3, 4, 5, 6, 7] rfl)
            · refine lv_iconst (v := 1) hx hb dX3_bestSet_63 (by decide) ?_
              refine lv_goto (tgt := 77) hx hb dX3_bestSet_64 (by decide) ?_
              exact J1388689 f1388607 1 ((fm_I g1388609 rh0 rfl).trans ((fm_I g1388600 rh0 rfl).trans m1388470)) ((fm_R g1388609 rh0 rfl).trans ((fm_R g1388600 rh0 rfl).trans m1388595)) ((fm_R g1388609 rh0 rfl).trans m1388604) (by decide) _ _ _ hW hF (lv_sub hl [0, 1, 2, 3, 4, 5, 6, 7] rfl)
          · refine lv_goto (tgt := 109) hx hb dX3_bestSet_55 (by decide) ?_
            exact J1388664 f1388607 y1388465 y1388466 ((fm_I g1388609 rh0 rfl).trans ((fm_I g1388600 rh0 rfl).trans m1388470)) ((fm_R g1388609 rh0 rfl).trans ((fm_R g1388600 rh0 rfl).trans m1388595)) ((fm_R g1388609 rh0 rfl).trans m1388604) (by omega) _ _ _ hW hF (lv_sub hl [0, 1, 2, 3, 4, 5, 6, 7] rfl)
  have hk1388713 : (0 : Int32).toInt = 0 := rfl
  have hk1388714 : (0 : Int32).toInt = 0 := rfl
  have hk1388715 : ((-1) : Int32).toInt = -1 := rfl
  exact L1388468 2147483648 f0 0 0 (-1) (by decide) (by decide) (by omega) _ _ _ hW hF (lv_sub hl [0, 1, 2, 3, 4, 5] rfl)
def ms_X3_copyFrom : List (Nat × Nat) := [(3, 0), (3, 1), (3, 2), (3, 3), (284, 0), (285, 0)]
def po_X3_copyFrom (kp : Nat → Nat) (L : List Nat) (f0 : Nat → va_E) (h0 : Nat) (u1 : Nat) : Option Value → (Nat → va_E) → Prop := fun v f => v = none ∧ FM kp L ms_X3_copyFrom f0 f
set_option maxHeartbeats 4000000 in
set_option maxRecDepth 100000 in
theorem c_X3_copyFrom (l : Launch) (G : va_G) (cI cJ cZ cD cR cT : ClassId) (kp : Nat → Nat) (L : List Nat) (f0 : Nat → va_E) (hTH : TH cI cJ cZ cD cR cT kp L f0) (sz : Nat) (h0 : Nat) (u1 : Nat) (rh0 : RK kp L h0 3) (ru1 : RK kp L u1 3) : Met l yX3_copyFrom (Cond.code yX3_copyFrom cX3_copyFrom 2 none :: wTab) ({ frames := 1, cells := 0, slots := 0, locals := 60 }) (va_Pc [.ref h0, .ref u1] (PreW G (tys6 cI cJ cZ cD cR cT) (va_pl L f0) sz)) (QT (po_X3_copyFrom kp L f0 h0 u1) G cI cJ cZ cD cR cT (va_A (va_pl L f0) sz) kp L) 0 0 (va_A (va_pl L f0) sz) := by
  refine metT (by decide) (Nat.le_of_ble_eq_true rfl) hTH ?_
  intro p e s m below meth c A ls E hW hl
  obtain ⟨hx, hb, -, hml, hown, hts, -, -, -⟩ := id E
  have hF : FM kp L ms_X3_copyFrom f0 f0 := FM.rf
  have hl : lv_has ls 2 [(0, .ref h0), (1, .ref u1)] := hl
  refine lv_aload_n hx hb dX3_copyFrom_0 rfl (lv_at hl 0 rfl) ?_
  refine lv_aload_n hx hb dX3_copyFrom_1 rfl (lv_at hl 1 rfl) ?_
  refine fg_RX3_35 E hW ru1 dX3_copyFrom_2 (fun y1388716 m1388717 => ?_)
  refine fp_RX3_35 E hW rh0 dX3_copyFrom_5 (fun f1388719 H locs e1388720 n1388721 g1388722 hW => ?_)
  have hF := FM.tr hF g1388722 rfl
  refine lv_aload_n hx hb dX3_copyFrom_8 rfl (lv_at hl 0 rfl) ?_
  refine lv_aload_n hx hb dX3_copyFrom_9 rfl (lv_at hl 1 rfl) ?_
  refine fg_RX3_9 E hW ru1 dX3_copyFrom_10 (fun y1388723 m1388724 => ?_)
  refine fp_RX3_9 E hW rh0 dX3_copyFrom_13 (fun f1388726 H locs e1388727 n1388728 g1388729 hW => ?_)
  have hF := FM.tr hF g1388729 rfl
  refine lv_aload_n hx hb dX3_copyFrom_16 rfl (lv_at hl 0 rfl) ?_
  refine lv_aload_n hx hb dX3_copyFrom_17 rfl (lv_at hl 1 rfl) ?_
  refine fg_RX3_38 E hW ru1 dX3_copyFrom_18 (fun y1388730 m1388731 => ?_)
  refine fp_RX3_38 E hW rh0 dX3_copyFrom_21 (fun f1388733 H locs e1388734 n1388735 g1388736 hW => ?_)
  have hF := FM.tr hF g1388736 rfl
  refine lv_aload_n hx hb dX3_copyFrom_24 rfl (lv_at hl 0 rfl) ?_
  refine lv_aload_n hx hb dX3_copyFrom_25 rfl (lv_at hl 1 rfl) ?_
  refine fg_RX3_22 E hW ru1 dX3_copyFrom_26 (fun y1388737 m1388738 b1388739 => ?_)
  refine fp_RX3_22 E hW rh0 (by omega) dX3_copyFrom_29 (fun f1388740 H locs e1388741 n1388742 g1388743 hW => ?_)
  have hF := FM.tr hF g1388743 rfl
  refine lv_aload_n hx hb dX3_copyFrom_32 rfl (lv_at hl 1 rfl) ?_
  refine fg_RX3_15 E hW ru1 dX3_copyFrom_33 (fun a1388744 m1388745 r1388746 => ?_)
  refine lv_iconst (v := 0) hx hb dX3_copyFrom_36 (by decide) ?_
  refine lv_aload_n hx hb dX3_copyFrom_37 rfl (lv_at hl 0 rfl) ?_
  refine fg_RX3_15 E hW rh0 dX3_copyFrom_38 (fun a1388747 m1388748 r1388749 => ?_)
  refine lv_iconst (v := 0) hx hb dX3_copyFrom_41 (by decide) ?_
  refine lv_bipush (v := 9) hx hb dX3_copyFrom_42 (by decide) ?_
  refine t_copy (N := 9) (n0 := 9) (n1 := 9) E hW tw_1317 ⟨tw_1004, tw_1003, tw_122⟩ hl.1 rfl r1388746 (by decide) rfl r1388749 (by decide) rfl rfl (by decide) rfl (by decide) (by decide) (by decide) (fun _ _ => trivial) ⟨Nat.le_of_ble_eq_true rfl, Nat.le_of_ble_eq_true rfl⟩ dX3_copyFrom_44 (fun f1388750 H locs n1388752 g1388753 hW => ?_)
  have hF := FM.tr hF g1388753 rfl
  refine lv_aload_n hx hb dX3_copyFrom_47 rfl (lv_at hl 1 rfl) ?_
  refine fg_RX3_19 E hW ru1 dX3_copyFrom_48 (fun a1388754 m1388755 r1388756 => ?_)
  refine lv_iconst (v := 0) hx hb dX3_copyFrom_51 (by decide) ?_
  refine lv_aload_n hx hb dX3_copyFrom_52 rfl (lv_at hl 0 rfl) ?_
  refine fg_RX3_19 E hW rh0 dX3_copyFrom_53 (fun a1388757 m1388758 r1388759 => ?_)
  refine lv_iconst (v := 0) hx hb dX3_copyFrom_56 (by decide) ?_
  refine lv_bipush (v := 9) hx hb dX3_copyFrom_57 (by decide) ?_
  refine t_copy (N := 9) (n0 := 9) (n1 := 9) E hW tw_1317 ⟨tw_1004, tw_1003, tw_122⟩ hl.1 rfl r1388756 (by decide) rfl r1388759 (by decide) rfl rfl (by decide) rfl (by decide) (by decide) (by decide) (fun _ _ => trivial) ⟨Nat.le_of_ble_eq_true rfl, Nat.le_of_ble_eq_true rfl⟩ dX3_copyFrom_59 (fun f1388760 H locs n1388762 g1388763 hW => ?_)
  have hF := FM.tr hF g1388763 rfl
  exact e_V E hW rfl ⟨rfl, hF⟩ dX3_copyFrom_62
def ms_X3_sumOf : List (Nat × Nat) := []
def po_X3_sumOf (kp : Nat → Nat) (L : List Nat) (f0 : Nat → va_E) (h0 : Nat) (u1 : Int32) (u2 : Nat) : Option Value → (Nat → va_E) → Prop := fun v f => (∃ r : Int32, v = some (.int r) ∧ (True)) ∧ FM kp L ms_X3_sumOf f0 f
set_option maxHeartbeats 4000000 in
set_option maxRecDepth 100000 in
theorem c_X3_sumOf (l : Launch) (G : va_G) (cI cJ cZ cD cR cT : ClassId) (kp : Nat → Nat) (L : List Nat) (f0 : Nat → va_E) (hTH : TH cI cJ cZ cD cR cT kp L f0) (sz : Nat) (h0 : Nat) (u1 : Int32) (u2 : Nat) (rh0 : RK kp L h0 3) (ru2 : RK kp L u2 284) : Met l yX3_sumOf (Cond.code yX3_sumOf cX3_sumOf 5 (some .int) :: wTab) ({ frames := 1, cells := 0, slots := 0, locals := 40 }) (va_Pc [.ref h0, .int u1, .ref u2] (PreW G (tys6 cI cJ cZ cD cR cT) (va_pl L f0) sz)) (QT (po_X3_sumOf kp L f0 h0 u1 u2) G cI cJ cZ cD cR cT (va_A (va_pl L f0) sz) kp L) 0 0 (va_A (va_pl L f0) sz) := by
  refine metT (by decide) (Nat.le_of_ble_eq_true rfl) hTH ?_
  intro p e s m below meth c A ls E hW hl
  obtain ⟨hx, hb, -, hml, hown, hts, -, -, -⟩ := id E
  have hF : FM kp L ms_X3_sumOf f0 f0 := FM.rf
  have hl : lv_has ls 5 [(0, .ref h0), (1, .int u1), (2, .ref u2)] := hl
  refine lv_iconst (v := 0) hx hb dX3_sumOf_0 (by decide) ?_
  refine lv_istore_n (lv' := [(3, .int 0), (0, .ref h0), (1, .int u1), (2, .ref u2)]) hx hb dX3_sumOf_1 rfl hl (by decide) rfl (fun ls hl => ?_)
  refine lv_iconst (v := 0) hx hb dX3_sumOf_2 (by decide) ?_
  refine lv_istore (lv' := [(4, .int 0), (3, .int 0), (0, .ref h0), (1, .int u1), (2, .ref u2)]) hx hb dX3_sumOf_3 hl (by decide) rfl (fun ls hl => ?_)
  have L1389332 : ∀ (n : Nat), ∀ (y1389329 : Int32) (y1389331 : Int32) (b1389330 : (0 : Int) ≤ y1389329.toInt ∧ y1389329.toInt ≤ 9) (hm : (10 : Int) - y1389329.toInt ≤ n) (H : Heap) (locs : List Loc) (ls : Array Slot), WS G cI cJ cZ cD cR cT A kp L f0 s H locs → FM kp L ms_X3_sumOf f0 f0 → lv_has ls 5 [(4, .int y1389329), (3, .int y1389331), (0, .ref h0), (1, .int u1), (2, .ref u2)] → W p l e ({ frames := 1, cells := 0, slots := 0, locals := 40 }) s m ([.ref h0, .int u1, .ref u2] : List Value).toArray below meth c H locs 0 0 (MQ below (QT (po_X3_sumOf kp L f0 h0 u1 u2) G cI cJ cZ cD cR cT A kp L) ([.ref h0, .int u1, .ref u2] : List Value).toArray s 0 0 A) (F0 m 5 ls []) := by
    intro n
    induction n with
    | zero =>
      intro y1389329 y1389331 b1389330 hm H locs ls hW hF hl
      have hz := i32_b y1389329
      exfalso; omega
    | succ n ih =>
      intro y1389329 y1389331 b1389330 hm H locs ls hW hF hl
      have ih5 := ih
      refine lv_iload hx hb dX3_sumOf_5 (lv_at hl 0 rfl) ?_
      refine lv_aload_n hx hb dX3_sumOf_7 rfl (lv_at hl 2 rfl) ?_
      refine fg_RX3_22 E hW rh0 dX3_sumOf_8 (fun y1389333 m1389334 b1389335 => ?_)
      refine q_icmp_ge (tgt := 48) hx hb dX3_sumOf_11 (by decide) rfl rfl (fun c1389354 => ?_) (fun c1389354 => ?_)
      · refine lv_iload_n hx hb dX3_sumOf_48 rfl (lv_at hl 1 rfl) ?_
        exact e_I E hW rfl ⟨⟨_, rfl, trivial⟩, hF⟩ dX3_sumOf_49
      · refine lv_iload hx hb dX3_sumOf_14 (lv_at hl 0 rfl) ?_
        refine lv_aload_n hx hb dX3_sumOf_16 rfl (lv_at hl 4 rfl) ?_
        refine r_alen E hW ru2 (by decide) dX3_sumOf_17 (fun n1389355 h1389356 => ?_) (by rw [lenOk_n (th_len hW ru2 (by decide)) rfl (by decide)]; decide)
        rw [lenOk_n (th_len hW ru2 (by decide)) rfl (by decide)] at h1389356
        obtain rfl : (9 : Int32) = n1389355 := Int32.toInt_inj.mp (Eq.trans (by decide) h1389356.symm)
        refine q_icmp_ge (Y := 9) (tgt := 48) hx hb dX3_sumOf_18 (by decide) rfl rfl (fun c1389372 => ?_) (fun c1389372 => ?_)
        · exfalso; omega
        · refine lv_iload_n hx hb dX3_sumOf_21 rfl (lv_at hl 1 rfl) ?_
          refine lv_iload_n hx hb dX3_sumOf_22 rfl (lv_at hl 3 rfl) ?_
          refine lv_iload hx hb dX3_sumOf_23 (lv_at hl 0 rfl) ?_
          refine u_ishr hx hb dX3_sumOf_25 (fun x1389373 => ?_)
          refine lv_iconst (v := 1) hx hb dX3_sumOf_26 (by decide) ?_
          refine q_iand (M := 1) (k := 1) hx hb dX3_sumOf_27 (by decide) (by decide) (by decide) (fun x1389374 h1389375 => ?_)
          refine lv_iconst (v := 1) hx hb dX3_sumOf_28 (by decide) ?_
          have J1389380 : ∀ (y1389379 : Int32) (H : Heap) (locs : List Loc) (ls : Array Slot), WS G cI cJ cZ cD cR cT A kp L f0 s H locs → FM kp L ms_X3_sumOf f0 f0 → lv_has ls 5 [(4, .int y1389329), (3, .int y1389331), (0, .ref h0), (1, .int u1), (2, .ref u2)] → W p l e ({ frames := 1, cells := 0, slots := 0, locals := 40 }) s m ([.ref h0, .int u1, .ref u2] : List Value).toArray below meth c H locs 0 0 (MQ below (QT (po_X3_sumOf kp L f0 h0 u1 u2) G cI cJ cZ cD cR cT A kp L) ([.ref h0, .int u1, .ref u2] : List Value).toArray s 0 0 A) (F0 m 40 ls [.int y1389379, .int y1389331]) := by
            intro y1389379 H locs ls hW hF hl
            clear h1389375
            refine u_iadd hx hb dX3_sumOf_40 (fun x1389381 => ?_)
            refine lv_istore_n (lv' := [(3, .int x1389381), (4, .int y1389329), (0, .ref h0), (1, .int u1), (2, .ref u2)]) hx hb dX3_sumOf_41 rfl hl (by decide) rfl (fun ls hl => ?_)
            refine q_iinc hx hb dX3_sumOf_42 hl (k := 1) rfl rfl rfl (by omega) (by decide) (fun i1389382 ls h1389383 hl => ?_)
            have hl : lv_has ls 5 [(4, .int i1389382), (3, .int x1389381), (0, .ref h0), (1, .int u1), (2, .ref u2)] := hl
            refine lv_goto (tgt := 5) hx hb dX3_sumOf_45 (by decide) ?_
            exact ih5 i1389382 x1389381 (by omega) (by omega) _ _ _ hW hF (lv_sub hl [0, 1, 2, 3, 4] rfl)
          refine q_icmp_ne (Y := 1) (tgt := 39) hx hb dX3_sumOf_29 (by decide) rfl rfl (fun c1389384 => ?_) (fun c1389384 => ?_)
          · refine lv_iconst (v := 0) hx hb dX3_sumOf_39 (by decide) ?_
            exact J1389380 0  _ _ _ hW hF (lv_sub hl [0, 1, 2, 3, 4] rfl)
          · refine lv_aload_n hx hb dX3_sumOf_32 rfl (lv_at hl 4 rfl) ?_
            refine lv_iload hx hb dX3_sumOf_33 (lv_at hl 0 rfl) ?_
            refine gl_284 E hW ru2 ⟨by omega, by omega⟩ dX3_sumOf_35 (fun y1389385 m1389386 => ?_)
            refine lv_goto (tgt := 40) hx hb dX3_sumOf_36 (by decide) ?_
            exact J1389380 y1389385  _ _ _ hW hF (lv_sub hl [0, 1, 2, 3, 4] rfl)
  have hk1389388 : (0 : Int32).toInt = 0 := rfl
  have hk1389389 : (0 : Int32).toInt = 0 := rfl
  exact L1389332 10 0 0 (by decide) (by omega) _ _ _ hW hF (lv_sub hl [0, 1, 2, 3, 4] rfl)
def ms_X2_add : List (Nat × Nat) := [(2, 0), (221, 0)]
def po_X2_add (kp : Nat → Nat) (L : List Nat) (f0 : Nat → va_E) (h0 : Nat) (u1 : Nat) : Option Value → (Nat → va_E) → Prop := fun v f => (∃ r : Int32, v = some (.int r) ∧ ((-1 : Int) ≤ r.toInt ∧ r.toInt ≤ 19)) ∧ FM kp L ms_X2_add f0 f
set_option maxHeartbeats 4000000 in
set_option maxRecDepth 100000 in
theorem c_X2_add (l : Launch) (G : va_G) (cI cJ cZ cD cR cT : ClassId) (kp : Nat → Nat) (L : List Nat) (f0 : Nat → va_E) (hTH : TH cI cJ cZ cD cR cT kp L f0) (sz : Nat) (h0 : Nat) (u1 : Nat) (rh0 : RK kp L h0 2) (ru1 : RK kp L u1 9) : Met l yX2_add (Cond.code yX2_add cX2_add 2 (some .int) :: wTab) ({ frames := 1, cells := 0, slots := 0, locals := 40 }) (va_Pc [.ref h0, .ref u1] (PreW G (tys6 cI cJ cZ cD cR cT) (va_pl L f0) sz)) (QT (po_X2_add kp L f0 h0 u1) G cI cJ cZ cD cR cT (va_A (va_pl L f0) sz) kp L) 0 0 (va_A (va_pl L f0) sz) := by
  refine metT (by decide) (Nat.le_of_ble_eq_true rfl) hTH ?_
  intro p e s m below meth c A ls E hW hl
  obtain ⟨hx, hb, -, hml, hown, hts, -, -, -⟩ := id E
  have hF : FM kp L ms_X2_add f0 f0 := FM.rf
  have hl : lv_has ls 2 [(0, .ref h0), (1, .ref u1)] := hl
  refine lv_aload_n hx hb dX2_add_0 rfl (lv_at hl 0 rfl) ?_
  refine fg_RX2_24 E hW rh0 dX2_add_1 (fun y1389390 m1389391 b1389392 => ?_)
  refine lv_bipush (v := 20) hx hb dX2_add_4 (by decide) ?_
  refine q_icmp_lt (Y := 20) (tgt := 11) hx hb dX2_add_6 (by decide) rfl rfl (fun c1389393 => ?_) (fun c1389393 => ?_)
  · refine lv_aload_n hx hb dX2_add_11 rfl (lv_at hl 0 rfl) ?_
    refine fg_RX2_11 E hW rh0 dX2_add_12 (fun a1389394 m1389395 r1389396 => ?_)
    refine lv_aload_n hx hb dX2_add_15 rfl (lv_at hl 0 rfl) ?_
    refine fg_RX2_24 E hW rh0 dX2_add_16 (fun y1389397 m1389398 b1389399 => ?_)
    obtain rfl : y1389390 = y1389397 := (m1389391).symm.trans m1389398
    refine lv_aload_n hx hb dX2_add_19 rfl (lv_at hl 1 rfl) ?_
    refine r_astT E hW r1389396 (by decide) rfl (by decide) ru1 (ixN (N := 20) hW r1389396 (by decide) rfl (by decide) ⟨by omega, by omega⟩) dX2_add_20 (fun f1389400 H locs n1389401 g1389402 hW => ?_)
    have hF := FM.tr hF g1389402 rfl
    refine lv_aload_n hx hb dX2_add_21 rfl (lv_at hl 0 rfl) ?_
    refine lv_dup hx hb dX2_add_22 rfl ?_
    refine fg_RX2_24 E hW rh0 dX2_add_23 (fun y1389403 m1389404 b1389405 => ?_)
    obtain rfl : y1389390 = y1389403 := (((fm_I g1389402 rh0 rfl).trans m1389398)).symm.trans m1389404
    refine lv_iconst (v := 1) hx hb dX2_add_26 (by decide) ?_
    refine q_iadd (Y := 1) hx hb dX2_add_27 rfl rfl (by omega) (fun x1389406 h1389407 => ?_)
    refine fp_RX2_24 E hW rh0 (by omega) dX2_add_28 (fun f1389408 H locs e1389409 n1389410 g1389411 hW => ?_)
    have hF := FM.tr hF g1389411 rfl
    refine lv_aload_n hx hb dX2_add_31 rfl (lv_at hl 0 rfl) ?_
    refine fg_RX2_24 E hW rh0 dX2_add_32 (fun y1389412 m1389413 b1389414 => ?_)
    obtain rfl : x1389406 = y1389412 := (e1389409).symm.trans m1389413
    refine lv_iconst (v := 1) hx hb dX2_add_35 (by decide) ?_
    refine q_isub (Y := 1) hx hb dX2_add_36 rfl rfl (by omega) (fun x1389415 h1389416 => ?_)
    exact e_I E hW rfl ⟨⟨_, rfl, (by first | omega | trivial)⟩, hF⟩ dX2_add_37
  · refine lv_iconst (v := (-1)) hx hb dX2_add_9 (by decide) ?_
    exact e_I E hW rfl ⟨⟨_, rfl, (by have hk : ((-1) : Int32).toInt = -1 := rfl; first | decide | omega)⟩, hF⟩ dX2_add_10
def ms_X2_asksBanned : List (Nat × Nat) := []
def po_X2_asksBanned (kp : Nat → Nat) (L : List Nat) (f0 : Nat → va_E) (h0 : Nat) : Option Value → (Nat → va_E) → Prop := fun v f => (∃ r : Int32, v = some (.int r) ∧ ((0 : Int) ≤ r.toInt ∧ r.toInt ≤ 1)) ∧ FM kp L ms_X2_asksBanned f0 f
set_option maxHeartbeats 4000000 in
set_option maxRecDepth 100000 in
theorem c_X2_asksBanned (l : Launch) (G : va_G) (cI cJ cZ cD cR cT : ClassId) (kp : Nat → Nat) (L : List Nat) (f0 : Nat → va_E) (hTH : TH cI cJ cZ cD cR cT kp L f0) (sz : Nat) (h0 : Nat) (rh0 : RK kp L h0 2) : Met l yX2_asksBanned (Cond.code yX2_asksBanned cX2_asksBanned 3 (some .boolean) :: wTab) ({ frames := 1, cells := 0, slots := 0, locals := 40 }) (va_Pc [.ref h0] (PreW G (tys6 cI cJ cZ cD cR cT) (va_pl L f0) sz)) (QT (po_X2_asksBanned kp L f0 h0) G cI cJ cZ cD cR cT (va_A (va_pl L f0) sz) kp L) 0 0 (va_A (va_pl L f0) sz) := by
  refine metT (by decide) (Nat.le_of_ble_eq_true rfl) hTH ?_
  intro p e s m below meth c A ls E hW hl
  obtain ⟨hx, hb, -, hml, hown, hts, -, -, -⟩ := id E
  have hF : FM kp L ms_X2_asksBanned f0 f0 := FM.rf
  have hl : lv_has ls 3 [(0, .ref h0)] := hl
  refine lv_iconst (v := 0) hx hb dX2_asksBanned_0 (by decide) ?_
  refine lv_istore_n (lv' := [(1, .int 0), (0, .ref h0)]) hx hb dX2_asksBanned_1 rfl hl (by decide) rfl (fun ls hl => ?_)
  have L1389771 : ∀ (n : Nat), ∀ (y1389769 : Int32) (b1389770 : (0 : Int) ≤ y1389769.toInt ∧ y1389769.toInt ≤ 20) (hm : (21 : Int) - y1389769.toInt ≤ n) (H : Heap) (locs : List Loc) (ls : Array Slot), WS G cI cJ cZ cD cR cT A kp L f0 s H locs → FM kp L ms_X2_asksBanned f0 f0 → lv_has ls 3 [(1, .int y1389769), (0, .ref h0)] → W p l e ({ frames := 1, cells := 0, slots := 0, locals := 40 }) s m ([.ref h0] : List Value).toArray below meth c H locs 0 0 (MQ below (QT (po_X2_asksBanned kp L f0 h0) G cI cJ cZ cD cR cT A kp L) ([.ref h0] : List Value).toArray s 0 0 A) (F0 m 2 ls []) := by
    intro n
    induction n with
    | zero =>
      intro y1389769 b1389770 hm H locs ls hW hF hl
      have hz := i32_b y1389769
      exfalso; omega
    | succ n ih =>
      intro y1389769 b1389770 hm H locs ls hW hF hl
      have ih2 := ih
      refine lv_iload_n hx hb dX2_asksBanned_2 rfl (lv_at hl 0 rfl) ?_
      refine lv_aload_n hx hb dX2_asksBanned_3 rfl (lv_at hl 1 rfl) ?_
      refine fg_RX2_24 E hW rh0 dX2_asksBanned_4 (fun y1389772 m1389773 b1389774 => ?_)
      refine q_icmp_ge (tgt := 36) hx hb dX2_asksBanned_7 (by decide) rfl rfl (fun c1389775 => ?_) (fun c1389775 => ?_)
      · refine lv_iconst (v := 0) hx hb dX2_asksBanned_36 (by decide) ?_
        exact e_Z E hW rfl (by decide) ⟨⟨_, rfl, (by have hk : (0 : Int32).toInt = 0 := rfl; first | decide | omega)⟩, hF⟩ dX2_asksBanned_37
      · refine lv_aload_n hx hb dX2_asksBanned_10 rfl (lv_at hl 1 rfl) ?_
        refine fg_RX2_11 E hW rh0 dX2_asksBanned_11 (fun a1389776 m1389777 r1389778 => ?_)
        refine lv_iload_n hx hb dX2_asksBanned_14 rfl (lv_at hl 0 rfl) ?_
        refine gl_221 E hW r1389778 ⟨by omega, by omega⟩ dX2_asksBanned_15 (fun o1389779 m1389781 k1389780 => ?_)
        rcases o1389779 with _ | a1389782
        · have hl : lv_has ls 3 [(1, .int y1389769), (0, .ref h0)] := hl
          show W p l e ({ frames := 1, cells := 0, slots := 0, locals := 40 }) s m ([.ref h0] : List Value).toArray below meth c _ _ 0 0 (MQ below (QT (po_X2_asksBanned kp L f0 h0) G cI cJ cZ cD cR cT A kp L) ([.ref h0] : List Value).toArray s 0 0 A) (F0 m 16 ls [.null])
          refine lv_astore_nN (lv' := [(2, .null), (1, .int y1389769), (0, .ref h0)]) hx hb dX2_asksBanned_16 rfl hl (by decide) rfl (fun ls hl => ?_)
          refine lv_aload_nN hx hb dX2_asksBanned_17 rfl (lv_at hl 0 rfl) ?_
          refine lv_ifnullN (tgt := 30) hx hb dX2_asksBanned_18 (by decide) ?_
          refine q_iinc hx hb dX2_asksBanned_30 hl (k := 1) rfl rfl rfl (by omega) (by decide) (fun i1389784 ls h1389785 hl => ?_)
          have hl : lv_has ls 3 [(1, .int i1389784), (2, .null), (0, .ref h0)] := hl
          refine lv_goto (tgt := 2) hx hb dX2_asksBanned_33 (by decide) ?_
          exact ih2 i1389784 (by omega) (by omega) _ _ _ hW hF (lv_sub hl [0, 2] rfl)
        · have r1389783 : RK kp L a1389782 9 := k1389780 _ rfl
          have hl : lv_has ls 3 [(1, .int y1389769), (0, .ref h0)] := hl
          show W p l e ({ frames := 1, cells := 0, slots := 0, locals := 40 }) s m ([.ref h0] : List Value).toArray below meth c _ _ 0 0 (MQ below (QT (po_X2_asksBanned kp L f0 h0) G cI cJ cZ cD cR cT A kp L) ([.ref h0] : List Value).toArray s 0 0 A) (F0 m 16 ls [.ref a1389782])
          refine lv_astore_n (lv' := [(2, .ref a1389782), (1, .int y1389769), (0, .ref h0)]) hx hb dX2_asksBanned_16 rfl hl (by decide) rfl (fun ls hl => ?_)
          refine lv_aload_n hx hb dX2_asksBanned_17 rfl (lv_at hl 0 rfl) ?_
          refine lv_ifnull hx hb dX2_asksBanned_18 ?_
          refine lv_aload_n hx hb dX2_asksBanned_21 rfl (lv_at hl 0 rfl) ?_
          refine fg_RX2_53 E hW r1389783 dX2_asksBanned_22 (fun y1389786 m1389787 b1389788 => ?_)
          refine q_if_eq (tgt := 30) hx hb dX2_asksBanned_25 (by decide) rfl (fun c1389789 => ?_) (fun c1389789 => ?_)
          · refine q_iinc hx hb dX2_asksBanned_30 hl (k := 1) rfl rfl rfl (by omega) (by decide) (fun i1389790 ls h1389791 hl => ?_)
            have hl : lv_has ls 3 [(1, .int i1389790), (2, .ref a1389782), (0, .ref h0)] := hl
            refine lv_goto (tgt := 2) hx hb dX2_asksBanned_33 (by decide) ?_
            exact ih2 i1389790 (by omega) (by omega) _ _ _ hW hF (lv_sub hl [0, 2] rfl)
          · refine lv_iconst (v := 1) hx hb dX2_asksBanned_28 (by decide) ?_
            exact e_Z E hW rfl (by decide) ⟨⟨_, rfl, (by have hk : (1 : Int32).toInt = 1 := rfl; first | decide | omega)⟩, hF⟩ dX2_asksBanned_29
  have hk1389792 : (0 : Int32).toInt = 0 := rfl
  exact L1389771 21 0 (by decide) (by omega) _ _ _ hW hF (lv_sub hl [0, 1] rfl)
def ms_X2_copyFrom : List (Nat × Nat) := [(2, 0), (221, 0)]
def po_X2_copyFrom (kp : Nat → Nat) (L : List Nat) (f0 : Nat → va_E) (h0 : Nat) (u1 : Nat) : Option Value → (Nat → va_E) → Prop := fun v f => v = none ∧ FM kp L ms_X2_copyFrom f0 f
set_option maxHeartbeats 4000000 in
set_option maxRecDepth 100000 in
theorem c_X2_copyFrom (l : Launch) (G : va_G) (cI cJ cZ cD cR cT : ClassId) (kp : Nat → Nat) (L : List Nat) (f0 : Nat → va_E) (hTH : TH cI cJ cZ cD cR cT kp L f0) (sz : Nat) (h0 : Nat) (u1 : Nat) (rh0 : RK kp L h0 2) (ru1 : RK kp L u1 2) : Met l yX2_copyFrom (Cond.code yX2_copyFrom cX2_copyFrom 3 none :: wTab) ({ frames := 1, cells := 0, slots := 0, locals := 40 }) (va_Pc [.ref h0, .ref u1] (PreW G (tys6 cI cJ cZ cD cR cT) (va_pl L f0) sz)) (QT (po_X2_copyFrom kp L f0 h0 u1) G cI cJ cZ cD cR cT (va_A (va_pl L f0) sz) kp L) 0 0 (va_A (va_pl L f0) sz) := by
  refine metT (by decide) (Nat.le_of_ble_eq_true rfl) hTH ?_
  intro p e s m below meth c A ls E hW hl
  obtain ⟨hx, hb, -, hml, hown, hts, -, -, -⟩ := id E
  have hF : FM kp L ms_X2_copyFrom f0 f0 := FM.rf
  have hl : lv_has ls 3 [(0, .ref h0), (1, .ref u1)] := hl
  refine lv_aload_n hx hb dX2_copyFrom_0 rfl (lv_at hl 0 rfl) ?_
  refine lv_aload_n hx hb dX2_copyFrom_1 rfl (lv_at hl 1 rfl) ?_
  refine fg_RX2_24 E hW ru1 dX2_copyFrom_2 (fun y1389793 m1389794 b1389795 => ?_)
  refine fp_RX2_24 E hW rh0 (by omega) dX2_copyFrom_5 (fun f1389796 H locs e1389797 n1389798 g1389799 hW => ?_)
  have hF := FM.tr hF g1389799 rfl
  refine lv_iconst (v := 0) hx hb dX2_copyFrom_8 (by decide) ?_
  refine lv_istore_n (lv' := [(2, .int 0), (0, .ref h0), (1, .ref u1)]) hx hb dX2_copyFrom_9 rfl hl (by decide) rfl (fun ls hl => ?_)
  have L1390220 : ∀ (n : Nat), ∀ (f1390216 : Nat → va_E) (y1390218 : Int32) (m1390217 : oI (f1390216 h0) 0 = y1389793) (b1390219 : (0 : Int) ≤ y1390218.toInt ∧ y1390218.toInt ≤ 20) (hm : (21 : Int) - y1390218.toInt ≤ n) (H : Heap) (locs : List Loc) (ls : Array Slot), WS G cI cJ cZ cD cR cT A kp L f1390216 s H locs → FM kp L ms_X2_copyFrom f0 f1390216 → lv_has ls 3 [(2, .int y1390218), (0, .ref h0), (1, .ref u1)] → W p l e ({ frames := 1, cells := 0, slots := 0, locals := 40 }) s m ([.ref h0, .ref u1] : List Value).toArray below meth c H locs 0 0 (MQ below (QT (po_X2_copyFrom kp L f0 h0 u1) G cI cJ cZ cD cR cT A kp L) ([.ref h0, .ref u1] : List Value).toArray s 0 0 A) (F0 m 10 ls []) := by
    intro n
    induction n with
    | zero =>
      intro f1390216 y1390218 m1390217 b1390219 hm H locs ls hW hF hl
      have hz := i32_b y1390218
      exfalso; omega
    | succ n ih =>
      intro f1390216 y1390218 m1390217 b1390219 hm H locs ls hW hF hl
      have ih10 := ih
      refine lv_iload_n hx hb dX2_copyFrom_10 rfl (lv_at hl 0 rfl) ?_
      refine lv_bipush (v := 20) hx hb dX2_copyFrom_11 (by decide) ?_
      refine q_icmp_ge (Y := 20) (tgt := 34) hx hb dX2_copyFrom_13 (by decide) rfl rfl (fun c1390242 => ?_) (fun c1390242 => ?_)
      · exact e_V E hW rfl ⟨rfl, hF⟩ dX2_copyFrom_34
      · refine lv_aload_n hx hb dX2_copyFrom_16 rfl (lv_at hl 1 rfl) ?_
        refine fg_RX2_11 E hW rh0 dX2_copyFrom_17 (fun a1390243 m1390244 r1390245 => ?_)
        refine lv_iload_n hx hb dX2_copyFrom_20 rfl (lv_at hl 0 rfl) ?_
        refine lv_aload_n hx hb dX2_copyFrom_21 rfl (lv_at hl 2 rfl) ?_
        refine fg_RX2_11 E hW ru1 dX2_copyFrom_22 (fun a1390246 m1390247 r1390248 => ?_)
        refine lv_iload_n hx hb dX2_copyFrom_25 rfl (lv_at hl 0 rfl) ?_
        refine gl_221 E hW r1390248 ⟨by omega, by omega⟩ dX2_copyFrom_26 (fun o1390249 m1390251 k1390250 => ?_)
        rcases o1390249 with _ | a1390252
        · have hl : lv_has ls 3 [(2, .int y1390218), (0, .ref h0), (1, .ref u1)] := hl
          show W p l e ({ frames := 1, cells := 0, slots := 0, locals := 40 }) s m ([.ref h0, .ref u1] : List Value).toArray below meth c _ _ 0 0 (MQ below (QT (po_X2_copyFrom kp L f0 h0 u1) G cI cJ cZ cD cR cT A kp L) ([.ref h0, .ref u1] : List Value).toArray s 0 0 A) (F0 m 27 ls [.null, .int y1390218, .ref a1390243])
          refine r_astTN E hW r1390245 (by decide) rfl (by decide) (ixN (N := 20) hW r1390245 (by decide) rfl (by decide) ⟨by omega, by omega⟩) dX2_copyFrom_27 (fun f1390254 H locs n1390255 g1390256 hW => ?_)
          have hF := FM.tr hF g1390256 rfl
          refine q_iinc hx hb dX2_copyFrom_28 hl (k := 0) rfl rfl rfl (by omega) (by decide) (fun i1390257 ls h1390258 hl => ?_)
          have hl : lv_has ls 3 [(2, .int i1390257), (0, .ref h0), (1, .ref u1)] := hl
          refine lv_goto (tgt := 10) hx hb dX2_copyFrom_31 (by decide) ?_
          exact ih10 f1390254 i1390257 ((fm_I g1390256 rh0 rfl).trans m1390217) (by omega) (by omega) _ _ _ hW hF (lv_sub hl [0, 1, 2] rfl)
        · have r1390253 : RK kp L a1390252 9 := k1390250 _ rfl
          have hl : lv_has ls 3 [(2, .int y1390218), (0, .ref h0), (1, .ref u1)] := hl
          show W p l e ({ frames := 1, cells := 0, slots := 0, locals := 40 }) s m ([.ref h0, .ref u1] : List Value).toArray below meth c _ _ 0 0 (MQ below (QT (po_X2_copyFrom kp L f0 h0 u1) G cI cJ cZ cD cR cT A kp L) ([.ref h0, .ref u1] : List Value).toArray s 0 0 A) (F0 m 27 ls [.ref a1390252, .int y1390218, .ref a1390243])
          refine r_astT E hW r1390245 (by decide) rfl (by decide) r1390253 (ixN (N := 20) hW r1390245 (by decide) rfl (by decide) ⟨by omega, by omega⟩) dX2_copyFrom_27 (fun f1390259 H locs n1390260 g1390261 hW => ?_)
          have hF := FM.tr hF g1390261 rfl
          refine q_iinc hx hb dX2_copyFrom_28 hl (k := 0) rfl rfl rfl (by omega) (by decide) (fun i1390262 ls h1390263 hl => ?_)
          have hl : lv_has ls 3 [(2, .int i1390262), (0, .ref h0), (1, .ref u1)] := hl
          refine lv_goto (tgt := 10) hx hb dX2_copyFrom_31 (by decide) ?_
          exact ih10 f1390259 i1390262 ((fm_I g1390261 rh0 rfl).trans m1390217) (by omega) (by omega) _ _ _ hW hF (lv_sub hl [0, 1, 2] rfl)
  have hk1390264 : (0 : Int32).toInt = 0 := rfl
  exact L1390220 21 f1389796 0 e1389797 (by decide) (by omega) _ _ _ hW hF (lv_sub hl [0, 1, 2] rfl)
def ms_X2_has : List (Nat × Nat) := []
def po_X2_has (kp : Nat → Nat) (L : List Nat) (f0 : Nat → va_E) (h0 : Nat) (u1 : Int32) (u2 : Int32) : Option Value → (Nat → va_E) → Prop := fun v f => (∃ r : Int32, v = some (.int r) ∧ ((r.toInt = 1 ∧ 0 ≤ u1.toInt ∧ u1.toInt ≤ 19 ∧ 0 ≤ u2.toInt ∧ u2.toInt ≤ 11 ∧ r.toInt = 1) ∨ r.toInt = 0)) ∧ FM kp L ms_X2_has f0 f ∧ (v = some (.int 1) → ∀ T : Nat, aQ (f0 (oR (f0 h0) 1)) u1.toNatClampNeg = some T → u2.toInt < (oI (f0 T) 1).toInt)
set_option maxHeartbeats 4000000 in
set_option maxRecDepth 100000 in
theorem c_X2_has (l : Launch) (G : va_G) (cI cJ cZ cD cR cT : ClassId) (kp : Nat → Nat) (L : List Nat) (f0 : Nat → va_E) (hTH : TH cI cJ cZ cD cR cT kp L f0) (sz : Nat) (h0 : Nat) (u1 : Int32) (u2 : Int32) (rh0 : RK kp L h0 2) : Met l yX2_has (Cond.code yX2_has cX2_has 4 (some .boolean) :: wTab) ({ frames := 1, cells := 0, slots := 0, locals := 40 }) (va_Pc [.ref h0, .int u1, .int u2] (PreW G (tys6 cI cJ cZ cD cR cT) (va_pl L f0) sz)) (QT (po_X2_has kp L f0 h0 u1 u2) G cI cJ cZ cD cR cT (va_A (va_pl L f0) sz) kp L) 0 0 (va_A (va_pl L f0) sz) := by
  refine metT (by decide) (Nat.le_of_ble_eq_true rfl) hTH ?_
  intro p e s m below meth c A ls E hW hl
  obtain ⟨hx, hb, -, hml, hown, hts, -, -, -⟩ := id E
  have hF : FM kp L ms_X2_has f0 f0 := FM.rf
  have hl : lv_has ls 4 [(0, .ref h0), (1, .int u1), (2, .int u2)] := hl
  refine lv_iload_n hx hb dX2_has_0 rfl (lv_at hl 1 rfl) ?_
  refine q_if_lt (tgt := 12) hx hb dX2_has_1 (by decide) rfl (fun c1390265 => ?_) (fun c1390265 => ?_)
  · refine lv_iconst (v := 0) hx hb dX2_has_12 (by decide) ?_
    exact e_Z E hW rfl (by decide) ⟨⟨_, rfl, (by have hk : (0 : Int32).toInt = 0 := rfl; first | decide | omega)⟩, hF, not_one⟩ dX2_has_13
  · refine lv_iload_n hx hb dX2_has_4 rfl (lv_at hl 1 rfl) ?_
    refine lv_aload_n hx hb dX2_has_5 rfl (lv_at hl 0 rfl) ?_
    refine fg_RX2_24 E hW rh0 dX2_has_6 (fun y1390266 m1390267 b1390268 => ?_)
    refine q_icmp_lt (tgt := 14) hx hb dX2_has_9 (by decide) rfl rfl (fun c1390269 => ?_) (fun c1390269 => ?_)
    · refine lv_aload_n hx hb dX2_has_14 rfl (lv_at hl 0 rfl) ?_
      refine fg_RX2_11 E hW rh0 dX2_has_15 (fun a1390270 m1390271 r1390272 => ?_)
      refine lv_iload_n hx hb dX2_has_18 rfl (lv_at hl 1 rfl) ?_
      refine gl_221 E hW r1390272 ⟨by omega, by omega⟩ dX2_has_19 (fun o1390273 m1390275 k1390274 => ?_)
      rcases o1390273 with _ | a1390276
      · have hl : lv_has ls 4 [(0, .ref h0), (1, .int u1), (2, .int u2)] := hl
        show W p l e ({ frames := 1, cells := 0, slots := 0, locals := 40 }) s m ([.ref h0, .int u1, .int u2] : List Value).toArray below meth c _ _ 0 0 (MQ below (QT (po_X2_has kp L f0 h0 u1 u2) G cI cJ cZ cD cR cT A kp L) ([.ref h0, .int u1, .int u2] : List Value).toArray s 0 0 A) (F0 m 20 ls [.null])
        refine lv_astore_nN (lv' := [(3, .null), (0, .ref h0), (1, .int u1), (2, .int u2)]) hx hb dX2_has_20 rfl hl (by decide) rfl (fun ls hl => ?_)
        refine lv_aload_nN hx hb dX2_has_21 rfl (lv_at hl 0 rfl) ?_
        refine lv_ifnullN (tgt := 41) hx hb dX2_has_22 (by decide) ?_
        refine lv_iconst (v := 0) hx hb dX2_has_41 (by decide) ?_
        exact e_Z E hW rfl (by decide) ⟨⟨_, rfl, (by have hk : (0 : Int32).toInt = 0 := rfl; first | decide | omega)⟩, hF, not_one⟩ dX2_has_42
      · have r1390277 : RK kp L a1390276 9 := k1390274 _ rfl
        have hl : lv_has ls 4 [(0, .ref h0), (1, .int u1), (2, .int u2)] := hl
        show W p l e ({ frames := 1, cells := 0, slots := 0, locals := 40 }) s m ([.ref h0, .int u1, .int u2] : List Value).toArray below meth c _ _ 0 0 (MQ below (QT (po_X2_has kp L f0 h0 u1 u2) G cI cJ cZ cD cR cT A kp L) ([.ref h0, .int u1, .int u2] : List Value).toArray s 0 0 A) (F0 m 20 ls [.ref a1390276])
        refine lv_astore_n (lv' := [(3, .ref a1390276), (0, .ref h0), (1, .int u1), (2, .int u2)]) hx hb dX2_has_20 rfl hl (by decide) rfl (fun ls hl => ?_)
        refine lv_aload_n hx hb dX2_has_21 rfl (lv_at hl 0 rfl) ?_
        refine lv_ifnull hx hb dX2_has_22 ?_
        refine lv_iload_n hx hb dX2_has_25 rfl (lv_at hl 3 rfl) ?_
        refine q_if_lt (tgt := 41) hx hb dX2_has_26 (by decide) rfl (fun c1390278 => ?_) (fun c1390278 => ?_)
        · refine lv_iconst (v := 0) hx hb dX2_has_41 (by decide) ?_
          exact e_Z E hW rfl (by decide) ⟨⟨_, rfl, (by have hk : (0 : Int32).toInt = 0 := rfl; first | decide | omega)⟩, hF, not_one⟩ dX2_has_42
        · refine lv_iload_n hx hb dX2_has_29 rfl (lv_at hl 3 rfl) ?_
          refine lv_aload_n hx hb dX2_has_30 rfl (lv_at hl 0 rfl) ?_
          refine fg_RX2_28 E hW r1390277 dX2_has_31 (fun y1390279 m1390280 b1390281 => ?_)
          refine q_icmp_ge (tgt := 41) hx hb dX2_has_34 (by decide) rfl rfl (fun c1390282 => ?_) (fun c1390282 => ?_)
          · refine lv_iconst (v := 0) hx hb dX2_has_41 (by decide) ?_
            exact e_Z E hW rfl (by decide) ⟨⟨_, rfl, (by have hk : (0 : Int32).toInt = 0 := rfl; first | decide | omega)⟩, hF, not_one⟩ dX2_has_42
          · refine lv_iconst (v := 1) hx hb dX2_has_37 (by decide) ?_
            refine lv_goto (tgt := 42) hx hb dX2_has_38 (by decide) ?_
            exact e_Z E hW rfl (by decide) ⟨⟨_, rfl, (by have hk : (1 : Int32).toInt = 1 := rfl; first | decide | omega)⟩, hF, (fun _ T hT => by rw [m1390271, m1390275] at hT; cases hT; rw [m1390280]; omega)⟩ dX2_has_42
    · refine lv_iconst (v := 0) hx hb dX2_has_12 (by decide) ?_
      exact e_Z E hW rfl (by decide) ⟨⟨_, rfl, (by have hk : (0 : Int32).toInt = 0 := rfl; first | decide | omega)⟩, hF, not_one⟩ dX2_has_13
def ms_X2_isInForce : List (Nat × Nat) := []
def po_X2_isInForce (kp : Nat → Nat) (L : List Nat) (f0 : Nat → va_E) (h0 : Nat) (u1 : Int32) (u2 : Int32) : Option Value → (Nat → va_E) → Prop := fun v f => (∃ r : Int32, v = some (.int r) ∧ ((0 : Int) ≤ r.toInt ∧ r.toInt ≤ 1)) ∧ FM kp L ms_X2_isInForce f0 f
set_option maxHeartbeats 4000000 in
set_option maxRecDepth 100000 in
theorem c_X2_isInForce (l : Launch) (G : va_G) (cI cJ cZ cD cR cT : ClassId) (kp : Nat → Nat) (L : List Nat) (f0 : Nat → va_E) (hTH : TH cI cJ cZ cD cR cT kp L f0) (sz : Nat) (h0 : Nat) (u1 : Int32) (u2 : Int32) (rh0 : RK kp L h0 2) (pu1 : (0 : Int) ≤ u1.toInt ∧ u1.toInt ≤ 19) (pu2 : (0 : Int) ≤ u2.toInt ∧ u2.toInt ≤ 11) : Met l yX2_isInForce (Cond.code yX2_isInForce cX2_isInForce 3 (some .boolean) :: wTab) ({ frames := 1, cells := 0, slots := 0, locals := 40 }) (va_Pc [.ref h0, .int u1, .int u2] (PreW G (tys6 cI cJ cZ cD cR cT) (va_pl L f0) sz)) (QT (po_X2_isInForce kp L f0 h0 u1 u2) G cI cJ cZ cD cR cT (va_A (va_pl L f0) sz) kp L) 0 0 (va_A (va_pl L f0) sz) := by
  refine metT (by decide) (Nat.le_of_ble_eq_true rfl) hTH ?_
  intro p e s m below meth c A ls E hW hl
  obtain ⟨hx, hb, -, hml, hown, hts, -, -, -⟩ := id E
  have hF : FM kp L ms_X2_isInForce f0 f0 := FM.rf
  have hl : lv_has ls 3 [(0, .ref h0), (1, .int u1), (2, .int u2)] := hl
  refine lv_aload_n hx hb dX2_isInForce_0 rfl (lv_at hl 0 rfl) ?_
  refine fg_RX2_17 E hW rh0 dX2_isInForce_1 (fun a1390283 m1390284 r1390285 => ?_)
  refine lv_iload_n hx hb dX2_isInForce_4 rfl (lv_at hl 1 rfl) ?_
  refine gl_222 E hW r1390285 ⟨by omega, by omega⟩ dX2_isInForce_5 (fun y1390286 m1390287 => ?_)
  refine lv_iload_n hx hb dX2_isInForce_6 rfl (lv_at hl 2 rfl) ?_
  refine u_ishr hx hb dX2_isInForce_7 (fun x1390289 => ?_)
  refine lv_iconst (v := 1) hx hb dX2_isInForce_8 (by decide) ?_
  refine q_iand (M := 1) (k := 1) hx hb dX2_isInForce_9 (by decide) (by decide) (by decide) (fun x1390290 h1390291 => ?_)
  refine lv_iconst (v := 1) hx hb dX2_isInForce_10 (by decide) ?_
  have J1390294 : ∀ (y1390292 : Int32) (b1390293 : (0 : Int) ≤ y1390292.toInt ∧ y1390292.toInt ≤ 1) (H : Heap) (locs : List Loc) (ls : Array Slot), WS G cI cJ cZ cD cR cT A kp L f0 s H locs → FM kp L ms_X2_isInForce f0 f0 → lv_has ls 3 [(0, .ref h0), (1, .int u1), (2, .int u2)] → W p l e ({ frames := 1, cells := 0, slots := 0, locals := 40 }) s m ([.ref h0, .int u1, .int u2] : List Value).toArray below meth c H locs 0 0 (MQ below (QT (po_X2_isInForce kp L f0 h0 u1 u2) G cI cJ cZ cD cR cT A kp L) ([.ref h0, .int u1, .int u2] : List Value).toArray s 0 0 A) (F0 m 19 ls [.int y1390292]) := by
    intro y1390292 b1390293 H locs ls hW hF hl
    clear h1390291
    exact e_Z E hW rfl (by omega) ⟨⟨_, rfl, (by first | omega | trivial)⟩, hF⟩ dX2_isInForce_19
  refine q_icmp_ne (Y := 1) (tgt := 18) hx hb dX2_isInForce_11 (by decide) rfl rfl (fun c1390295 => ?_) (fun c1390295 => ?_)
  · refine lv_iconst (v := 0) hx hb dX2_isInForce_18 (by decide) ?_
    exact J1390294 0 (by decide) _ _ _ hW hF (lv_sub hl [0, 1, 2] rfl)
  · refine lv_iconst (v := 1) hx hb dX2_isInForce_14 (by decide) ?_
    refine lv_goto (tgt := 19) hx hb dX2_isInForce_15 (by decide) ?_
    exact J1390294 1 (by decide) _ _ _ hW hF (lv_sub hl [0, 1, 2] rfl)
def ms_X2_mark : List (Nat × Nat) := [(222, 0), (223, 0)]
def po_X2_mark (kp : Nat → Nat) (L : List Nat) (f0 : Nat → va_E) (h0 : Nat) (u1 : Int32) : Option Value → (Nat → va_E) → Prop := fun v f => v = none ∧ FM kp L ms_X2_mark f0 f
set_option maxHeartbeats 4000000 in
set_option maxRecDepth 100000 in
theorem c_X2_mark (l : Launch) (G : va_G) (cI cJ cZ cD cR cT : ClassId) (kp : Nat → Nat) (L : List Nat) (f0 : Nat → va_E) (hTH : TH cI cJ cZ cD cR cT kp L f0) (sz : Nat) (h0 : Nat) (u1 : Int32) (rh0 : RK kp L h0 2) (pu1 : (0 : Int) ≤ u1.toInt ∧ u1.toInt ≤ 399) : Met l yX2_mark (Cond.code yX2_mark cX2_mark 6 none :: wTab) ({ frames := 2, cells := 0, slots := 0, locals := 63 }) (va_Pc [.ref h0, .int u1] (PreW G (tys6 cI cJ cZ cD cR cT) (va_pl L f0) sz)) (QT (po_X2_mark kp L f0 h0 u1) G cI cJ cZ cD cR cT (va_A (va_pl L f0) sz) kp L) 0 0 (va_A (va_pl L f0) sz) := by
  refine metT (by decide) (Nat.le_of_ble_eq_true rfl) hTH ?_
  intro p e s m below meth c A ls E hW hl
  obtain ⟨hx, hb, -, hml, hown, hts, -, -, -⟩ := id E
  have hF : FM kp L ms_X2_mark f0 f0 := FM.rf
  have hl : lv_has ls 6 [(0, .ref h0), (1, .int u1)] := hl
  refine lv_aload_n hx hb dX2_mark_0 rfl (lv_at hl 0 rfl) ?_
  refine fg_RX2_21 E hW rh0 dX2_mark_1 (fun a1390296 m1390297 r1390298 => ?_)
  refine lv_iconst (v := 0) hx hb dX2_mark_4 (by decide) ?_
  refine t_callS (As := [.ref a1390296, .int 0]) (rest := []) E hW (c_fill l G cI cJ cZ cD cR cT kp L f0 hW.2.2.2 _ a1390296 0 223 r1390298 (by decide) rfl (by decide) (fun _ _ _ => trivial) (by decide)) wk_J7_fill_53178 tw_695 rfl ⟨Nat.le_of_ble_eq_true rfl, Nat.le_of_ble_eq_true rfl⟩ ⟨rfl, rfl⟩ hl.1 rfl (Nat.le_of_ble_eq_true rfl) dX2_mark_5 ⟨Nat.le_of_ble_eq_true rfl, Nat.le_of_ble_eq_true rfl⟩ (fun v1390302 f1390299 H locs q1390301 hW => ?_)
  obtain ⟨rfl, g1390300⟩ := q1390301
  have hF := FM.tr hF g1390300 rfl
  refine lv_aload_n hx hb dX2_mark_8 rfl (lv_at hl 0 rfl) ?_
  refine fg_RX2_24 E hW rh0 dX2_mark_9 (fun y1390303 m1390304 b1390305 => ?_)
  refine lv_iconst (v := 1) hx hb dX2_mark_12 (by decide) ?_
  refine q_isub (Y := 1) hx hb dX2_mark_13 rfl rfl (by omega) (fun x1390306 h1390307 => ?_)
  refine lv_istore_n (lv' := [(2, .int x1390306), (0, .ref h0), (1, .int u1)]) hx hb dX2_mark_14 rfl hl (by decide) rfl (fun ls hl => ?_)
  have L1391887 : ∀ (n : Nat), ∀ (f1391882 : Nat → va_E) (y1391885 : Int32) (m1391883 : oI (f1391882 h0) 0 = y1390303) (m1391884 : oR (f1391882 h0) 3 = a1390296) (b1391886 : (-1 : Int) ≤ y1391885.toInt ∧ y1391885.toInt ≤ 19) (hm : y1391885.toInt - (-2 : Int) ≤ n) (H : Heap) (locs : List Loc) (ls : Array Slot), WS G cI cJ cZ cD cR cT A kp L f1391882 s H locs → FM kp L ms_X2_mark f0 f1391882 → lv_has ls 6 [(2, .int y1391885), (0, .ref h0), (1, .int u1)] → W p l e ({ frames := 2, cells := 0, slots := 0, locals := 63 }) s m ([.ref h0, .int u1] : List Value).toArray below meth c H locs 0 0 (MQ below (QT (po_X2_mark kp L f0 h0 u1) G cI cJ cZ cD cR cT A kp L) ([.ref h0, .int u1] : List Value).toArray s 0 0 A) (F0 m 15 ls []) := by
    intro n
    induction n with
    | zero =>
      intro f1391882 y1391885 m1391883 m1391884 b1391886 hm H locs ls hW hF hl
      have hz := i32_b y1391885
      exfalso; omega
    | succ n ih =>
      intro f1391882 y1391885 m1391883 m1391884 b1391886 hm H locs ls hW hF hl
      have ih15 := ih
      refine lv_iload_n hx hb dX2_mark_15 rfl (lv_at hl 0 rfl) ?_
      refine q_if_lt (tgt := 164) hx hb dX2_mark_16 (by decide) rfl (fun c1393456 => ?_) (fun c1393456 => ?_)
      · exact e_V E hW rfl ⟨rfl, hF⟩ dX2_mark_164
      · refine lv_aload_n hx hb dX2_mark_19 rfl (lv_at hl 1 rfl) ?_
        refine fg_RX2_11 E hW rh0 dX2_mark_20 (fun a1393457 m1393458 r1393459 => ?_)
        refine lv_iload_n hx hb dX2_mark_23 rfl (lv_at hl 0 rfl) ?_
        refine gl_221 E hW r1393459 ⟨by omega, by omega⟩ dX2_mark_24 (fun o1393460 m1393462 k1393461 => ?_)
        rcases o1393460 with _ | a1393463
        · have hl : lv_has ls 6 [(2, .int y1391885), (0, .ref h0), (1, .int u1)] := hl
          show W p l e ({ frames := 2, cells := 0, slots := 0, locals := 63 }) s m ([.ref h0, .int u1] : List Value).toArray below meth c _ _ 0 0 (MQ below (QT (po_X2_mark kp L f0 h0 u1) G cI cJ cZ cD cR cT A kp L) ([.ref h0, .int u1] : List Value).toArray s 0 0 A) (F0 m 25 ls [.null])
          refine lv_astore_nN (lv' := [(3, .null), (2, .int y1391885), (0, .ref h0), (1, .int u1)]) hx hb dX2_mark_25 rfl hl (by decide) rfl (fun ls hl => ?_)
          refine lv_aload_nN hx hb dX2_mark_26 rfl (lv_at hl 0 rfl) ?_
          refine lv_ifnullN (tgt := 42) hx hb dX2_mark_27 (by decide) ?_
          refine lv_iconst (v := 0) hx hb dX2_mark_42 (by decide) ?_
          refine lv_istore (lv' := [(4, .int 0), (3, .null), (2, .int y1391885), (0, .ref h0), (1, .int u1)]) hx hb dX2_mark_43 hl (by decide) rfl (fun ls hl => ?_)
          refine lv_aload_n hx hb dX2_mark_45 rfl (lv_at hl 3 rfl) ?_
          refine fg_RX2_17 E hW rh0 dX2_mark_46 (fun a1393465 m1393466 r1393467 => ?_)
          refine lv_iload_n hx hb dX2_mark_49 rfl (lv_at hl 2 rfl) ?_
          refine lv_iload hx hb dX2_mark_50 (lv_at hl 0 rfl) ?_
          refine q_if_eq (X := 0) (tgt := 75) hx hb dX2_mark_52 (by decide) rfl (fun _ => ?_) (fun c => absurd c (by decide))
          refine lv_iconst (v := 0) hx hb dX2_mark_75 (by decide) ?_
          refine gs_222 E hW r1393467 ⟨by omega, by omega⟩ dX2_mark_76 (fun f1393468 H locs e1393469 n1393470 g1393471 hW => ?_)
          have hF := FM.tr hF g1393471 rfl
          refine lv_iconst (v := 0) hx hb dX2_mark_77 (by decide) ?_
          refine lv_istore (lv' := [(5, .int 0), (4, .int 0), (3, .null), (2, .int y1391885), (0, .ref h0), (1, .int u1)]) hx hb dX2_mark_78 hl (by decide) rfl (fun ls hl => ?_)
          have L1393486 : ∀ (n : Nat), ∀ (f1393479 : Nat → va_E) (y1393484 : Int32) (m1393480 : oI (f1393479 h0) 0 = y1390303) (m1393481 : oR (f1393479 h0) 1 = a1393457) (m1393482 : oR (f1393479 h0) 2 = a1393465) (m1393483 : oR (f1393479 h0) 3 = a1390296) (b1393485 : (0 : Int) ≤ y1393484.toInt ∧ y1393484.toInt ≤ 0) (hm : (1 : Int) ≤ n) (H : Heap) (locs : List Loc) (ls : Array Slot), WS G cI cJ cZ cD cR cT A kp L f1393479 s H locs → FM kp L ms_X2_mark f0 f1393479 → lv_has ls 6 [(5, .int y1393484), (4, .int 0), (3, .null), (2, .int y1391885), (0, .ref h0), (1, .int u1)] → W p l e ({ frames := 2, cells := 0, slots := 0, locals := 63 }) s m ([.ref h0, .int u1] : List Value).toArray below meth c H locs 0 0 (MQ below (QT (po_X2_mark kp L f0 h0 u1) G cI cJ cZ cD cR cT A kp L) ([.ref h0, .int u1] : List Value).toArray s 0 0 A) (F0 m 80 ls []) := by
            intro n
            induction n with
            | zero =>
              intro f1393479 y1393484 m1393480 m1393481 m1393482 m1393483 b1393485 hm H locs ls hW hF hl
              exfalso; omega
            | succ n ih =>
              intro f1393479 y1393484 m1393480 m1393481 m1393482 m1393483 b1393485 hm H locs ls hW hF hl
              have ih80 := ih
              refine lv_iload hx hb dX2_mark_80 (lv_at hl 1 rfl) ?_
              refine q_if_eq (X := 0) (tgt := 158) hx hb dX2_mark_82 (by decide) rfl (fun _ => ?_) (fun c => absurd c (by decide))
              refine q_iinc hx hb dX2_mark_158 hl (k := 3) rfl rfl rfl (by omega) (by decide) (fun i1393487 ls h1393488 hl => ?_)
              have hl : lv_has ls 6 [(2, .int i1393487), (5, .int y1393484), (4, .int 0), (3, .null), (0, .ref h0), (1, .int u1)] := hl
              refine lv_goto (tgt := 15) hx hb dX2_mark_161 (by decide) ?_
              exact ih15 f1393479 i1393487 m1393480 m1393483 (by omega) (by omega) _ _ _ hW hF (lv_sub hl [0, 4, 5] rfl)
          have hk1393489 : (0 : Int32).toInt = 0 := rfl
          exact L1393486 1 f1393468 0 ((fm_I g1393471 rh0 rfl).trans m1391883) ((fm_R g1393471 rh0 rfl).trans m1393458) ((fm_R g1393471 rh0 rfl).trans m1393466) ((fm_R g1393471 rh0 rfl).trans m1391884) (by decide) (by omega) _ _ _ hW hF (lv_sub hl [0, 1, 2, 3, 4, 5] rfl)
        · have r1393464 : RK kp L a1393463 9 := k1393461 _ rfl
          have hl : lv_has ls 6 [(2, .int y1391885), (0, .ref h0), (1, .int u1)] := hl
          show W p l e ({ frames := 2, cells := 0, slots := 0, locals := 63 }) s m ([.ref h0, .int u1] : List Value).toArray below meth c _ _ 0 0 (MQ below (QT (po_X2_mark kp L f0 h0 u1) G cI cJ cZ cD cR cT A kp L) ([.ref h0, .int u1] : List Value).toArray s 0 0 A) (F0 m 25 ls [.ref a1393463])
          refine lv_astore_n (lv' := [(3, .ref a1393463), (2, .int y1391885), (0, .ref h0), (1, .int u1)]) hx hb dX2_mark_25 rfl hl (by decide) rfl (fun ls hl => ?_)
          refine lv_aload_n hx hb dX2_mark_26 rfl (lv_at hl 0 rfl) ?_
          refine lv_ifnull hx hb dX2_mark_27 ?_
          refine lv_aload_n hx hb dX2_mark_30 rfl (lv_at hl 0 rfl) ?_
          refine fg_RX2_37 E hW r1393464 dX2_mark_31 (fun y1393490 m1393491 => ?_)
          refine lv_iload_n hx hb dX2_mark_34 rfl (lv_at hl 3 rfl) ?_
          have J1393495 : ∀ (y1393493 : Int32) (b1393494 : (0 : Int) ≤ y1393493.toInt ∧ y1393493.toInt ≤ 1) (H : Heap) (locs : List Loc) (ls : Array Slot), WS G cI cJ cZ cD cR cT A kp L f1391882 s H locs → FM kp L ms_X2_mark f0 f1391882 → lv_has ls 6 [(3, .ref a1393463), (2, .int y1391885), (0, .ref h0), (1, .int u1)] → W p l e ({ frames := 2, cells := 0, slots := 0, locals := 63 }) s m ([.ref h0, .int u1] : List Value).toArray below meth c H locs 0 0 (MQ below (QT (po_X2_mark kp L f0 h0 u1) G cI cJ cZ cD cR cT A kp L) ([.ref h0, .int u1] : List Value).toArray s 0 0 A) (F0 m 43 ls [.int y1393493]) := by
            intro y1393493 b1393494 H locs ls hW hF hl
            refine lv_istore (lv' := [(4, .int y1393493), (3, .ref a1393463), (2, .int y1391885), (0, .ref h0), (1, .int u1)]) hx hb dX2_mark_43 hl (by decide) rfl (fun ls hl => ?_)
            refine lv_aload_n hx hb dX2_mark_45 rfl (lv_at hl 3 rfl) ?_
            refine fg_RX2_17 E hW rh0 dX2_mark_46 (fun a1393496 m1393497 r1393498 => ?_)
            refine lv_iload_n hx hb dX2_mark_49 rfl (lv_at hl 2 rfl) ?_
            refine lv_iload hx hb dX2_mark_50 (lv_at hl 0 rfl) ?_
            have J1393513 : ∀ (y1393512 : Int32) (H : Heap) (locs : List Loc) (ls : Array Slot), WS G cI cJ cZ cD cR cT A kp L f1391882 s H locs → FM kp L ms_X2_mark f0 f1391882 → lv_has ls 6 [(4, .int y1393493), (3, .ref a1393463), (2, .int y1391885), (0, .ref h0), (1, .int u1)] → W p l e ({ frames := 2, cells := 0, slots := 0, locals := 63 }) s m ([.ref h0, .int u1] : List Value).toArray below meth c H locs 0 0 (MQ below (QT (po_X2_mark kp L f0 h0 u1) G cI cJ cZ cD cR cT A kp L) ([.ref h0, .int u1] : List Value).toArray s 0 0 A) (F0 m 76 ls [.int y1393512, .int y1391885, .ref a1393496]) := by
              intro y1393512 H locs ls hW hF hl
              refine gs_222 E hW r1393498 ⟨by omega, by omega⟩ dX2_mark_76 (fun f1393514 H locs e1393515 n1393516 g1393517 hW => ?_)
              have hF := FM.tr hF g1393517 rfl
              refine lv_iconst (v := 0) hx hb dX2_mark_77 (by decide) ?_
              refine lv_istore (lv' := [(5, .int 0), (4, .int y1393493), (3, .ref a1393463), (2, .int y1391885), (0, .ref h0), (1, .int u1)]) hx hb dX2_mark_78 hl (by decide) rfl (fun ls hl => ?_)
              have L1394810 : ∀ (n : Nat), ∀ (f1394802 : Nat → va_E) (y1394808 : Int32) (m1394803 : oI (f1394802 a1393463) 0 = y1393490) (m1394804 : oI (f1394802 h0) 0 = y1390303) (m1394805 : oR (f1394802 h0) 1 = a1393457) (m1394806 : oR (f1394802 h0) 2 = a1393496) (m1394807 : oR (f1394802 h0) 3 = a1390296) (b1394809 : (0 : Int) ≤ y1394808.toInt ∧ y1394808.toInt ≤ 12) (hm : (13 : Int) - y1394808.toInt ≤ n) (H : Heap) (locs : List Loc) (ls : Array Slot), WS G cI cJ cZ cD cR cT A kp L f1394802 s H locs → FM kp L ms_X2_mark f0 f1394802 → lv_has ls 6 [(5, .int y1394808), (4, .int y1393493), (3, .ref a1393463), (2, .int y1391885), (0, .ref h0), (1, .int u1)] → W p l e ({ frames := 2, cells := 0, slots := 0, locals := 63 }) s m ([.ref h0, .int u1] : List Value).toArray below meth c H locs 0 0 (MQ below (QT (po_X2_mark kp L f0 h0 u1) G cI cJ cZ cD cR cT A kp L) ([.ref h0, .int u1] : List Value).toArray s 0 0 A) (F0 m 80 ls []) := by
                intro n
                induction n with
                | zero =>
                  intro f1394802 y1394808 m1394803 m1394804 m1394805 m1394806 m1394807 b1394809 hm H locs ls hW hF hl
                  have hz := i32_b y1394808
                  exfalso; omega
                | succ n ih =>
                  intro f1394802 y1394808 m1394803 m1394804 m1394805 m1394806 m1394807 b1394809 hm H locs ls hW hF hl
                  have ih80 := ih
                  refine lv_iload hx hb dX2_mark_80 (lv_at hl 1 rfl) ?_
                  have J1394909 : ∀ (H : Heap) (locs : List Loc) (ls : Array Slot), WS G cI cJ cZ cD cR cT A kp L f1394802 s H locs → FM kp L ms_X2_mark f0 f1394802 → lv_has ls 6 [(5, .int y1394808), (4, .int y1393493), (3, .ref a1393463), (2, .int y1391885), (0, .ref h0), (1, .int u1)] → W p l e ({ frames := 2, cells := 0, slots := 0, locals := 63 }) s m ([.ref h0, .int u1] : List Value).toArray below meth c H locs 0 0 (MQ below (QT (po_X2_mark kp L f0 h0 u1) G cI cJ cZ cD cR cT A kp L) ([.ref h0, .int u1] : List Value).toArray s 0 0 A) (F0 m 158 ls []) := by
                    intro  H locs ls hW hF hl
                    refine q_iinc hx hb dX2_mark_158 hl (k := 3) rfl rfl rfl (by omega) (by decide) (fun i1394910 ls h1394911 hl => ?_)
                    have hl : lv_has ls 6 [(2, .int i1394910), (5, .int y1394808), (4, .int y1393493), (3, .ref a1393463), (0, .ref h0), (1, .int u1)] := hl
                    refine lv_goto (tgt := 15) hx hb dX2_mark_161 (by decide) ?_
                    exact ih15 f1394802 i1394910 m1394804 m1394807 (by omega) (by omega) _ _ _ hW hF (lv_sub hl [0, 4, 5] rfl)
                  refine q_if_eq (tgt := 158) hx hb dX2_mark_82 (by decide) rfl (fun c1394912 => ?_) (fun c1394912 => ?_)
                  · exact J1394909   _ _ _ hW hF (lv_sub hl [0, 1, 2, 3, 4, 5] rfl)
                  · refine lv_iload hx hb dX2_mark_85 (lv_at hl 0 rfl) ?_
                    refine lv_aload_n hx hb dX2_mark_87 rfl (lv_at hl 2 rfl) ?_
                    refine fg_RX2_28 E hW r1393464 dX2_mark_88 (fun y1394913 m1394914 b1394915 => ?_)
                    refine q_icmp_ge (tgt := 158) hx hb dX2_mark_91 (by decide) rfl rfl (fun c1394916 => ?_) (fun c1394916 => ?_)
                    · exact J1394909   _ _ _ hW hF (lv_sub hl [0, 1, 2, 3, 4, 5] rfl)
                    · refine lv_aload_n hx hb dX2_mark_94 rfl (lv_at hl 2 rfl) ?_
                      refine fg_RX2_40 E hW r1393464 dX2_mark_95 (fun a1394917 m1394918 r1394919 => ?_)
                      refine lv_iload hx hb dX2_mark_98 (lv_at hl 0 rfl) ?_
                      refine gl_643 E hW r1394919 ⟨by omega, by omega⟩ dX2_mark_100 (fun y1394920 m1394921 => ?_)
                      refine lv_sipush (v := 256) hx hb dX2_mark_101 (by decide) ?_
                      have J1394969 : ∀ (f1394961 : Nat → va_E) (m1394962 : oI (f1394961 a1393463) 0 = y1393490) (m1394963 : oI (f1394961 a1393463) 1 = y1394913) (m1394964 : oR (f1394961 a1393463) 3 = a1394917) (m1394965 : oI (f1394961 h0) 0 = y1390303) (m1394966 : oR (f1394961 h0) 1 = a1393457) (m1394967 : oR (f1394961 h0) 2 = a1393496) (m1394968 : oR (f1394961 h0) 3 = a1390296) (H : Heap) (locs : List Loc) (ls : Array Slot), WS G cI cJ cZ cD cR cT A kp L f1394961 s H locs → FM kp L ms_X2_mark f0 f1394961 → lv_has ls 6 [(5, .int y1394808), (4, .int y1393493), (3, .ref a1393463), (2, .int y1391885), (0, .ref h0), (1, .int u1)] → W p l e ({ frames := 2, cells := 0, slots := 0, locals := 63 }) s m ([.ref h0, .int u1] : List Value).toArray below meth c H locs 0 0 (MQ below (QT (po_X2_mark kp L f0 h0 u1) G cI cJ cZ cD cR cT A kp L) ([.ref h0, .int u1] : List Value).toArray s 0 0 A) (F0 m 152 ls []) := by
                        intro f1394961 m1394962 m1394963 m1394964 m1394965 m1394966 m1394967 m1394968 H locs ls hW hF hl
                        refine q_iinc hx hb dX2_mark_152 hl (k := 0) rfl rfl rfl (by omega) (by decide) (fun i1394970 ls h1394971 hl => ?_)
                        have hl : lv_has ls 6 [(5, .int i1394970), (4, .int y1393493), (3, .ref a1393463), (2, .int y1391885), (0, .ref h0), (1, .int u1)] := hl
                        refine lv_goto (tgt := 80) hx hb dX2_mark_155 (by decide) ?_
                        exact ih80 f1394961 i1394970 m1394962 m1394965 m1394966 m1394967 m1394968 (by omega) (by omega) _ _ _ hW hF (lv_sub hl [0, 1, 2, 3, 4, 5] rfl)
                      refine q_icmp_ne (Y := 256) (tgt := 152) hx hb dX2_mark_104 (by decide) rfl rfl (fun c1394972 => ?_) (fun c1394972 => ?_)
                      · exact J1394969 f1394802 m1394803 m1394914 m1394918 m1394804 m1394805 m1394806 m1394807 _ _ _ hW hF (lv_sub hl [0, 1, 2, 3, 4, 5] rfl)
                      · refine lv_aload_n hx hb dX2_mark_107 rfl (lv_at hl 4 rfl) ?_
                        refine lv_iload_n hx hb dX2_mark_108 rfl (lv_at hl 3 rfl) ?_
                        refine lv_iload hx hb dX2_mark_109 (lv_at hl 0 rfl) ?_
                        refine t_callV (As := [.int y1391885, .int y1394808]) (rest := []) E hW (c_X2_isInForce l G cI cJ cZ cD cR cT kp L f1394802 hW.2.2.2 _ h0 y1391885 y1394808 rh0 (by omega) (by omega)) rh0 (by decide) rfl wk_X2_isInForce tw_696 rfl ⟨Nat.le_of_ble_eq_true rfl, Nat.le_of_ble_eq_true rfl⟩ ⟨rfl, rfl⟩ hl.1 rfl (Nat.le_of_ble_eq_true rfl) dX2_mark_111 ⟨Nat.le_of_ble_eq_true rfl, Nat.le_of_ble_eq_true rfl⟩ (fun v1394973 f1394974 H locs q1394975 hW => ?_)
                        obtain ⟨⟨x1394977, rfl, p1394978⟩, g1394976⟩ := q1394975
                        have hF := FM.tr hF g1394976 rfl
                        refine q_if_eq (tgt := 152) hx hb dX2_mark_114 (by decide) rfl (fun c1394979 => ?_) (fun c1394979 => ?_)
                        · exact J1394969 f1394974 ((fm_I g1394976 r1393464 rfl).trans m1394803) ((fm_I g1394976 r1393464 rfl).trans m1394914) ((fm_R g1394976 r1393464 rfl).trans m1394918) ((fm_I g1394976 rh0 rfl).trans m1394804) ((fm_R g1394976 rh0 rfl).trans m1394805) ((fm_R g1394976 rh0 rfl).trans m1394806) ((fm_R g1394976 rh0 rfl).trans m1394807) _ _ _ hW hF (lv_sub hl [0, 1, 2, 3, 4, 5] rfl)
                        · refine lv_aload_n hx hb dX2_mark_117 rfl (lv_at hl 2 rfl) ?_
                          refine fg_RX2_47 E hW r1393464 dX2_mark_118 (fun a1394980 m1394981 r1394982 => ?_)
                          refine lv_iload hx hb dX2_mark_121 (lv_at hl 0 rfl) ?_
                          refine gl_644 E hW r1394982 ⟨by omega, by omega⟩ dX2_mark_123 (fun y1394983 m1394984 b1394985 => ?_)
                          refine lv_iload_n hx hb dX2_mark_124 rfl (lv_at hl 3 rfl) ?_
                          refine q_icmp_ge (tgt := 152) hx hb dX2_mark_125 (by decide) rfl rfl (fun c1394986 => ?_) (fun c1394986 => ?_)
                          · exact J1394969 f1394974 ((fm_I g1394976 r1393464 rfl).trans m1394803) ((fm_I g1394976 r1393464 rfl).trans m1394914) ((fm_R g1394976 r1393464 rfl).trans m1394918) ((fm_I g1394976 rh0 rfl).trans m1394804) ((fm_R g1394976 rh0 rfl).trans m1394805) ((fm_R g1394976 rh0 rfl).trans m1394806) ((fm_R g1394976 rh0 rfl).trans m1394807) _ _ _ hW hF (lv_sub hl [0, 1, 2, 3, 4, 5] rfl)
                          · refine lv_aload_n hx hb dX2_mark_128 rfl (lv_at hl 4 rfl) ?_
                            refine fg_RX2_21 E hW rh0 dX2_mark_129 (fun a1394987 m1394988 r1394989 => ?_)
                            obtain rfl : a1390296 = a1394987 := (((fm_R g1394976 rh0 rfl).trans m1394807)).symm.trans m1394988
                            refine lv_aload_n hx hb dX2_mark_132 rfl (lv_at hl 2 rfl) ?_
                            refine fg_RX2_47 E hW r1393464 dX2_mark_133 (fun a1394990 m1394991 r1394992 => ?_)
                            obtain rfl : a1394980 = a1394990 := (m1394981).symm.trans m1394991
                            refine lv_iload hx hb dX2_mark_136 (lv_at hl 0 rfl) ?_
                            refine gl_644 E hW r1394982 ⟨by omega, by omega⟩ dX2_mark_138 (fun y1394993 m1394994 b1394995 => ?_)
                            obtain rfl : y1394983 = y1394993 := (m1394984).symm.trans m1394994
                            refine lv_dup2_11 hx hb dX2_mark_139 rfl rfl ?_
                            refine gl_223 E hW r1390298 ⟨by omega, by omega⟩ dX2_mark_140 (fun y1394996 m1394997 => ?_)
                            refine lv_iconst (v := 1) hx hb dX2_mark_141 (by decide) ?_
                            refine lv_aload_n hx hb dX2_mark_142 rfl (lv_at hl 2 rfl) ?_
                            refine fg_RX2_50 E hW r1393464 dX2_mark_143 (fun a1394999 m1395000 r1395001 => ?_)
                            refine lv_iload hx hb dX2_mark_146 (lv_at hl 0 rfl) ?_
                            refine gl_645 E hW r1395001 ⟨by omega, by omega⟩ dX2_mark_148 (fun y1395002 m1395003 => ?_)
                            refine u_ishl hx hb dX2_mark_149 (fun x1395005 => ?_)
                            refine u_ior hx hb dX2_mark_150 (fun x1395006 => ?_)
                            refine gs_223 E hW r1390298 ⟨by omega, by omega⟩ dX2_mark_151 (fun f1395007 H locs e1395008 n1395009 g1395010 hW => ?_)
                            have hF := FM.tr hF g1395010 rfl
                            exact J1394969 f1395007 ((fm_I g1395010 r1393464 rfl).trans ((fm_I g1394976 r1393464 rfl).trans m1394803)) ((fm_I g1395010 r1393464 rfl).trans ((fm_I g1394976 r1393464 rfl).trans m1394914)) ((fm_R g1395010 r1393464 rfl).trans ((fm_R g1394976 r1393464 rfl).trans m1394918)) ((fm_I g1395010 rh0 rfl).trans ((fm_I g1394976 rh0 rfl).trans m1394804)) ((fm_R g1395010 rh0 rfl).trans ((fm_R g1394976 rh0 rfl).trans m1394805)) ((fm_R g1395010 rh0 rfl).trans ((fm_R g1394976 rh0 rfl).trans m1394806)) ((fm_R g1395010 rh0 rfl).trans m1394988) _ _ _ hW hF (lv_sub hl [0, 1, 2, 3, 4, 5] rfl)
              have hk1395011 : (0 : Int32).toInt = 0 := rfl
              exact L1394810 13 f1393514 0 ((fm_I g1393517 r1393464 rfl).trans m1393491) ((fm_I g1393517 rh0 rfl).trans m1391883) ((fm_R g1393517 rh0 rfl).trans m1393458) ((fm_R g1393517 rh0 rfl).trans m1393497) ((fm_R g1393517 rh0 rfl).trans m1391884) (by decide) (by omega) _ _ _ hW hF (lv_sub hl [0, 1, 2, 3, 4, 5] rfl)
            refine q_if_eq (tgt := 75) hx hb dX2_mark_52 (by decide) rfl (fun c1395012 => ?_) (fun c1395012 => ?_)
            · refine lv_iconst (v := 0) hx hb dX2_mark_75 (by decide) ?_
              exact J1393513 0  _ _ _ hW hF (lv_sub hl [0, 1, 2, 3, 4] rfl)
            · refine lv_iconst (v := 1) hx hb dX2_mark_55 (by decide) ?_
              refine lv_aload_n hx hb dX2_mark_56 rfl (lv_at hl 1 rfl) ?_
              refine fg_RX2_28 E hW r1393464 dX2_mark_57 (fun y1395013 m1395014 b1395015 => ?_)
              refine u_ishl hx hb dX2_mark_60 (fun x1395016 => ?_)
              refine lv_iconst (v := 1) hx hb dX2_mark_61 (by decide) ?_
              refine u_isub hx hb dX2_mark_62 (fun x1395017 => ?_)
              refine lv_aload_n hx hb dX2_mark_63 rfl (lv_at hl 3 rfl) ?_
              refine fg_RX2_21 E hW rh0 dX2_mark_64 (fun a1395018 m1395019 r1395020 => ?_)
              obtain rfl : a1390296 = a1395018 := (m1391884).symm.trans m1395019
              refine lv_iload_n hx hb dX2_mark_67 rfl (lv_at hl 2 rfl) ?_
              refine gl_223 E hW r1390298 ⟨by omega, by omega⟩ dX2_mark_68 (fun y1395021 m1395022 => ?_)
              refine lv_iconst (v := (-1)) hx hb dX2_mark_69 (by decide) ?_
              refine u_ixor hx hb dX2_mark_70 (fun x1395024 => ?_)
              refine u_iand hx hb dX2_mark_71 (fun x1395025 => ?_)
              refine lv_goto (tgt := 76) hx hb dX2_mark_72 (by decide) ?_
              exact J1393513 x1395025  _ _ _ hW hF (lv_sub hl [0, 1, 2, 3, 4] rfl)
          refine q_icmp_gt (tgt := 42) hx hb dX2_mark_35 (by decide) rfl rfl (fun c1395026 => ?_) (fun c1395026 => ?_)
          · refine lv_iconst (v := 0) hx hb dX2_mark_42 (by decide) ?_
            exact J1393495 0 (by decide) _ _ _ hW hF (lv_sub hl [0, 1, 2, 3] rfl)
          · refine lv_iconst (v := 1) hx hb dX2_mark_38 (by decide) ?_
            refine lv_goto (tgt := 43) hx hb dX2_mark_39 (by decide) ?_
            exact J1393495 1 (by decide) _ _ _ hW hF (lv_sub hl [0, 1, 2, 3] rfl)
  exact L1391887 21 f1390299 x1390306 m1390304 ((fm_R g1390300 rh0 rfl).trans m1390297) (by omega) (by omega) _ _ _ hW hF (lv_sub hl [0, 1, 2] rfl)
def ms_X2_weeksOf : List (Nat × Nat) := []
def po_X2_weeksOf (kp : Nat → Nat) (L : List Nat) (f0 : Nat → va_E) (h0 : Nat) (u1 : Int32) : Option Value → (Nat → va_E) → Prop := fun v f => (∃ r : Int32, v = some (.int r) ∧ (True)) ∧ FM kp L ms_X2_weeksOf f0 f
set_option maxHeartbeats 4000000 in
set_option maxRecDepth 100000 in
theorem c_X2_weeksOf (l : Launch) (G : va_G) (cI cJ cZ cD cR cT : ClassId) (kp : Nat → Nat) (L : List Nat) (f0 : Nat → va_E) (hTH : TH cI cJ cZ cD cR cT kp L f0) (sz : Nat) (h0 : Nat) (u1 : Int32) (rh0 : RK kp L h0 2) (pu1 : u1.toInt ≤ 3) : Met l yX2_weeksOf (Cond.code yX2_weeksOf cX2_weeksOf 6 (some .int) :: wTab) ({ frames := 2, cells := 0, slots := 0, locals := 62 }) (va_Pc [.ref h0, .int u1] (PreW G (tys6 cI cJ cZ cD cR cT) (va_pl L f0) sz)) (QT (po_X2_weeksOf kp L f0 h0 u1) G cI cJ cZ cD cR cT (va_A (va_pl L f0) sz) kp L) 0 0 (va_A (va_pl L f0) sz) := by
  refine metT (by decide) (Nat.le_of_ble_eq_true rfl) hTH ?_
  intro p e s m below meth c A ls E hW hl
  obtain ⟨hx, hb, -, hml, hown, hts, -, -, -⟩ := id E
  have hF : FM kp L ms_X2_weeksOf f0 f0 := FM.rf
  have hl : lv_has ls 6 [(0, .ref h0), (1, .int u1)] := hl
  refine lv_iconst (v := 4) hx hb dX2_weeksOf_0 (by decide) ?_
  refine lv_istore_n (lv' := [(2, .int 4), (0, .ref h0), (1, .int u1)]) hx hb dX2_weeksOf_1 rfl hl (by decide) rfl (fun ls hl => ?_)
  refine lv_iconst (v := 0) hx hb dX2_weeksOf_2 (by decide) ?_
  refine lv_istore_n (lv' := [(3, .int 0), (2, .int 4), (0, .ref h0), (1, .int u1)]) hx hb dX2_weeksOf_3 rfl hl (by decide) rfl (fun ls hl => ?_)
  have L1412125 : ∀ (n : Nat), ∀ (f1412121 : Nat → va_E) (y1412122 : Int32) (y1412124 : Int32) (b1412123 : (0 : Int) ≤ y1412122.toInt ∧ y1412122.toInt ≤ 20) (hm : (21 : Int) - y1412122.toInt ≤ n) (H : Heap) (locs : List Loc) (ls : Array Slot), WS G cI cJ cZ cD cR cT A kp L f1412121 s H locs → FM kp L ms_X2_weeksOf f0 f1412121 → lv_has ls 6 [(3, .int y1412122), (2, .int y1412124), (0, .ref h0), (1, .int u1)] → W p l e ({ frames := 2, cells := 0, slots := 0, locals := 62 }) s m ([.ref h0, .int u1] : List Value).toArray below meth c H locs 0 0 (MQ below (QT (po_X2_weeksOf kp L f0 h0 u1) G cI cJ cZ cD cR cT A kp L) ([.ref h0, .int u1] : List Value).toArray s 0 0 A) (F0 m 4 ls []) := by
    intro n
    induction n with
    | zero =>
      intro f1412121 y1412122 y1412124 b1412123 hm H locs ls hW hF hl
      have hz := i32_b y1412122
      exfalso; omega
    | succ n ih =>
      intro f1412121 y1412122 y1412124 b1412123 hm H locs ls hW hF hl
      have ih4 := ih
      refine lv_iload_n hx hb dX2_weeksOf_4 rfl (lv_at hl 0 rfl) ?_
      refine lv_aload_n hx hb dX2_weeksOf_5 rfl (lv_at hl 2 rfl) ?_
      refine fg_RX2_24 E hW rh0 dX2_weeksOf_6 (fun y1412126 m1412127 b1412128 => ?_)
      refine q_icmp_ge (tgt := 95) hx hb dX2_weeksOf_9 (by decide) rfl rfl (fun c1413126 => ?_) (fun c1413126 => ?_)
      · refine lv_iload_n hx hb dX2_weeksOf_95 rfl (lv_at hl 1 rfl) ?_
        exact e_I E hW rfl ⟨⟨_, rfl, trivial⟩, hF⟩ dX2_weeksOf_96
      · refine lv_aload_n hx hb dX2_weeksOf_12 rfl (lv_at hl 2 rfl) ?_
        refine fg_RX2_11 E hW rh0 dX2_weeksOf_13 (fun a1413127 m1413128 r1413129 => ?_)
        refine lv_iload_n hx hb dX2_weeksOf_16 rfl (lv_at hl 0 rfl) ?_
        refine gl_221 E hW r1413129 ⟨by omega, by omega⟩ dX2_weeksOf_17 (fun o1413130 m1413132 k1413131 => ?_)
        rcases o1413130 with _ | a1413133
        · have hl : lv_has ls 6 [(3, .int y1412122), (2, .int y1412124), (0, .ref h0), (1, .int u1)] := hl
          show W p l e ({ frames := 2, cells := 0, slots := 0, locals := 62 }) s m ([.ref h0, .int u1] : List Value).toArray below meth c _ _ 0 0 (MQ below (QT (po_X2_weeksOf kp L f0 h0 u1) G cI cJ cZ cD cR cT A kp L) ([.ref h0, .int u1] : List Value).toArray s 0 0 A) (F0 m 18 ls [.null])
          refine lv_astoreN (lv' := [(4, .null), (3, .int y1412122), (2, .int y1412124), (0, .ref h0), (1, .int u1)]) hx hb dX2_weeksOf_18 hl (by decide) rfl (fun ls hl => ?_)
          refine lv_iconst (v := 0) hx hb dX2_weeksOf_20 (by decide) ?_
          refine lv_istore (lv' := [(5, .int 0), (4, .null), (3, .int y1412122), (2, .int y1412124), (0, .ref h0), (1, .int u1)]) hx hb dX2_weeksOf_21 hl (by decide) rfl (fun ls hl => ?_)
          have L1413141 : ∀ (n : Nat), ∀ (y1413138 : Int32) (y1413140 : Int32) (b1413139 : (0 : Int) ≤ y1413138.toInt ∧ y1413138.toInt ≤ 0) (hm : (1 : Int) ≤ n) (H : Heap) (locs : List Loc) (ls : Array Slot), WS G cI cJ cZ cD cR cT A kp L f1412121 s H locs → FM kp L ms_X2_weeksOf f0 f1412121 → lv_has ls 6 [(5, .int y1413138), (4, .null), (3, .int y1412122), (2, .int y1413140), (0, .ref h0), (1, .int u1)] → W p l e ({ frames := 2, cells := 0, slots := 0, locals := 62 }) s m ([.ref h0, .int u1] : List Value).toArray below meth c H locs 0 0 (MQ below (QT (po_X2_weeksOf kp L f0 h0 u1) G cI cJ cZ cD cR cT A kp L) ([.ref h0, .int u1] : List Value).toArray s 0 0 A) (F0 m 23 ls []) := by
            intro n
            induction n with
            | zero =>
              intro y1413138 y1413140 b1413139 hm H locs ls hW hF hl
              exfalso; omega
            | succ n ih =>
              intro y1413138 y1413140 b1413139 hm H locs ls hW hF hl
              have ih23 := ih
              refine lv_aloadN hx hb dX2_weeksOf_23 (lv_at hl 1 rfl) ?_
              refine lv_ifnullN (tgt := 89) hx hb dX2_weeksOf_25 (by decide) ?_
              refine q_iinc hx hb dX2_weeksOf_89 hl (k := 2) rfl rfl rfl (by omega) (by decide) (fun i1413142 ls h1413143 hl => ?_)
              have hl : lv_has ls 6 [(3, .int i1413142), (5, .int y1413138), (4, .null), (2, .int y1413140), (0, .ref h0), (1, .int u1)] := hl
              refine lv_goto (tgt := 4) hx hb dX2_weeksOf_92 (by decide) ?_
              exact ih4 f1412121 i1413142 y1413140 (by omega) (by omega) _ _ _ hW hF (lv_sub hl [0, 3, 4, 5] rfl)
          have hk1413144 : (0 : Int32).toInt = 0 := rfl
          exact L1413141 1 0 y1412124 (by decide) (by omega) _ _ _ hW hF (lv_sub hl [0, 1, 2, 3, 4, 5] rfl)
        · have r1413134 : RK kp L a1413133 9 := k1413131 _ rfl
          have hl : lv_has ls 6 [(3, .int y1412122), (2, .int y1412124), (0, .ref h0), (1, .int u1)] := hl
          show W p l e ({ frames := 2, cells := 0, slots := 0, locals := 62 }) s m ([.ref h0, .int u1] : List Value).toArray below meth c _ _ 0 0 (MQ below (QT (po_X2_weeksOf kp L f0 h0 u1) G cI cJ cZ cD cR cT A kp L) ([.ref h0, .int u1] : List Value).toArray s 0 0 A) (F0 m 18 ls [.ref a1413133])
          refine lv_astore (lv' := [(4, .ref a1413133), (3, .int y1412122), (2, .int y1412124), (0, .ref h0), (1, .int u1)]) hx hb dX2_weeksOf_18 hl (by decide) rfl (fun ls hl => ?_)
          refine lv_iconst (v := 0) hx hb dX2_weeksOf_20 (by decide) ?_
          refine lv_istore (lv' := [(5, .int 0), (4, .ref a1413133), (3, .int y1412122), (2, .int y1412124), (0, .ref h0), (1, .int u1)]) hx hb dX2_weeksOf_21 hl (by decide) rfl (fun ls hl => ?_)
          have L1414006 : ∀ (n : Nat), ∀ (f1414000 : Nat → va_E) (y1414003 : Int32) (y1414005 : Int32) (m1414001 : oI (f1414000 h0) 0 = y1412126) (m1414002 : oR (f1414000 h0) 1 = a1413127) (b1414004 : (0 : Int) ≤ y1414003.toInt ∧ y1414003.toInt ≤ 12) (hm : (13 : Int) - y1414003.toInt ≤ n) (H : Heap) (locs : List Loc) (ls : Array Slot), WS G cI cJ cZ cD cR cT A kp L f1414000 s H locs → FM kp L ms_X2_weeksOf f0 f1414000 → lv_has ls 6 [(5, .int y1414003), (4, .ref a1413133), (3, .int y1412122), (2, .int y1414005), (0, .ref h0), (1, .int u1)] → W p l e ({ frames := 2, cells := 0, slots := 0, locals := 62 }) s m ([.ref h0, .int u1] : List Value).toArray below meth c H locs 0 0 (MQ below (QT (po_X2_weeksOf kp L f0 h0 u1) G cI cJ cZ cD cR cT A kp L) ([.ref h0, .int u1] : List Value).toArray s 0 0 A) (F0 m 23 ls []) := by
            intro n
            induction n with
            | zero =>
              intro f1414000 y1414003 y1414005 m1414001 m1414002 b1414004 hm H locs ls hW hF hl
              have hz := i32_b y1414003
              exfalso; omega
            | succ n ih =>
              intro f1414000 y1414003 y1414005 m1414001 m1414002 b1414004 hm H locs ls hW hF hl
              have ih23 := ih
              refine lv_aload hx hb dX2_weeksOf_23 (lv_at hl 1 rfl) ?_
              refine lv_ifnull hx hb dX2_weeksOf_25 ?_
              refine lv_iload hx hb dX2_weeksOf_28 (lv_at hl 0 rfl) ?_
              refine lv_aload hx hb dX2_weeksOf_30 (lv_at hl 1 rfl) ?_
              refine fg_RX2_28 E hW r1413134 dX2_weeksOf_32 (fun y1414007 m1414008 b1414009 => ?_)
              refine q_icmp_ge (tgt := 89) hx hb dX2_weeksOf_35 (by decide) rfl rfl (fun c1414066 => ?_) (fun c1414066 => ?_)
              · refine q_iinc hx hb dX2_weeksOf_89 hl (k := 2) rfl rfl rfl (by omega) (by decide) (fun i1414067 ls h1414068 hl => ?_)
                have hl : lv_has ls 6 [(3, .int i1414067), (5, .int y1414003), (4, .ref a1413133), (2, .int y1414005), (0, .ref h0), (1, .int u1)] := hl
                refine lv_goto (tgt := 4) hx hb dX2_weeksOf_92 (by decide) ?_
                exact ih4 f1414000 i1414067 y1414005 (by omega) (by omega) _ _ _ hW hF (lv_sub hl [0, 3, 4, 5] rfl)
              · refine lv_aload hx hb dX2_weeksOf_38 (lv_at hl 1 rfl) ?_
                refine fg_RX2_40 E hW r1413134 dX2_weeksOf_40 (fun a1414069 m1414070 r1414071 => ?_)
                refine lv_iload hx hb dX2_weeksOf_43 (lv_at hl 0 rfl) ?_
                refine gl_643 E hW r1414071 ⟨by omega, by omega⟩ dX2_weeksOf_45 (fun y1414072 m1414073 => ?_)
                refine lv_sipush (v := 258) hx hb dX2_weeksOf_46 (by decide) ?_
                have J1414101 : ∀ (f1414095 : Nat → va_E) (y1414100 : Int32) (m1414096 : oI (f1414095 a1413133) 1 = y1414007) (m1414097 : oR (f1414095 a1413133) 3 = a1414069) (m1414098 : oI (f1414095 h0) 0 = y1412126) (m1414099 : oR (f1414095 h0) 1 = a1413127) (H : Heap) (locs : List Loc) (ls : Array Slot), WS G cI cJ cZ cD cR cT A kp L f1414095 s H locs → FM kp L ms_X2_weeksOf f0 f1414095 → lv_has ls 6 [(5, .int y1414003), (4, .ref a1413133), (3, .int y1412122), (2, .int y1414100), (0, .ref h0), (1, .int u1)] → W p l e ({ frames := 2, cells := 0, slots := 0, locals := 62 }) s m ([.ref h0, .int u1] : List Value).toArray below meth c H locs 0 0 (MQ below (QT (po_X2_weeksOf kp L f0 h0 u1) G cI cJ cZ cD cR cT A kp L) ([.ref h0, .int u1] : List Value).toArray s 0 0 A) (F0 m 83 ls []) := by
                  intro f1414095 y1414100 m1414096 m1414097 m1414098 m1414099 H locs ls hW hF hl
                  refine q_iinc hx hb dX2_weeksOf_83 hl (k := 0) rfl rfl rfl (by omega) (by decide) (fun i1414102 ls h1414103 hl => ?_)
                  have hl : lv_has ls 6 [(5, .int i1414102), (4, .ref a1413133), (3, .int y1412122), (2, .int y1414100), (0, .ref h0), (1, .int u1)] := hl
                  refine lv_goto (tgt := 23) hx hb dX2_weeksOf_86 (by decide) ?_
                  exact ih23 f1414095 i1414102 y1414100 m1414098 m1414099 (by omega) (by omega) _ _ _ hW hF (lv_sub hl [0, 1, 2, 3, 4, 5] rfl)
                refine q_icmp_ne (Y := 258) (tgt := 83) hx hb dX2_weeksOf_49 (by decide) rfl rfl (fun c1414104 => ?_) (fun c1414104 => ?_)
                · exact J1414101 f1414000 y1414005 m1414008 m1414070 m1414001 m1414002 _ _ _ hW hF (lv_sub hl [0, 1, 2, 3, 4, 5] rfl)
                · refine lv_aload_n hx hb dX2_weeksOf_52 rfl (lv_at hl 4 rfl) ?_
                  refine lv_iload_n hx hb dX2_weeksOf_53 rfl (lv_at hl 2 rfl) ?_
                  refine lv_iload hx hb dX2_weeksOf_54 (lv_at hl 0 rfl) ?_
                  refine t_callV (As := [.int y1412122, .int y1414003]) (rest := []) E hW (c_X2_isInForce l G cI cJ cZ cD cR cT kp L f1414000 hW.2.2.2 _ h0 y1412122 y1414003 rh0 (by omega) (by omega)) rh0 (by decide) rfl wk_X2_isInForce tw_696 rfl ⟨Nat.le_of_ble_eq_true rfl, Nat.le_of_ble_eq_true rfl⟩ ⟨rfl, rfl⟩ hl.1 rfl (Nat.le_of_ble_eq_true rfl) dX2_weeksOf_56 ⟨Nat.le_of_ble_eq_true rfl, Nat.le_of_ble_eq_true rfl⟩ (fun v1414105 f1414106 H locs q1414107 hW => ?_)
                  obtain ⟨⟨x1414109, rfl, p1414110⟩, g1414108⟩ := q1414107
                  have hF := FM.tr hF g1414108 rfl
                  refine q_if_eq (tgt := 83) hx hb dX2_weeksOf_59 (by decide) rfl (fun c1414111 => ?_) (fun c1414111 => ?_)
                  · exact J1414101 f1414106 y1414005 ((fm_I g1414108 r1413134 rfl).trans m1414008) ((fm_R g1414108 r1413134 rfl).trans m1414070) ((fm_I g1414108 rh0 rfl).trans m1414001) ((fm_R g1414108 rh0 rfl).trans m1414002) _ _ _ hW hF (lv_sub hl [0, 1, 2, 3, 4, 5] rfl)
                  · refine lv_aload hx hb dX2_weeksOf_62 (lv_at hl 1 rfl) ?_
                    refine fg_RX2_47 E hW r1413134 dX2_weeksOf_64 (fun a1414112 m1414113 r1414114 => ?_)
                    refine lv_iload hx hb dX2_weeksOf_67 (lv_at hl 0 rfl) ?_
                    refine gl_644 E hW r1414114 ⟨by omega, by omega⟩ dX2_weeksOf_69 (fun y1414115 m1414116 b1414117 => ?_)
                    refine lv_iload_n hx hb dX2_weeksOf_70 rfl (lv_at hl 5 rfl) ?_
                    refine q_icmp_ne (tgt := 83) hx hb dX2_weeksOf_71 (by decide) rfl rfl (fun c1414118 => ?_) (fun c1414118 => ?_)
                    · exact J1414101 f1414106 y1414005 ((fm_I g1414108 r1413134 rfl).trans m1414008) ((fm_R g1414108 r1413134 rfl).trans m1414070) ((fm_I g1414108 rh0 rfl).trans m1414001) ((fm_R g1414108 rh0 rfl).trans m1414002) _ _ _ hW hF (lv_sub hl [0, 1, 2, 3, 4, 5] rfl)
                    · refine lv_aload hx hb dX2_weeksOf_74 (lv_at hl 1 rfl) ?_
                      refine fg_RX2_50 E hW r1413134 dX2_weeksOf_76 (fun a1414119 m1414120 r1414121 => ?_)
                      refine lv_iload hx hb dX2_weeksOf_79 (lv_at hl 0 rfl) ?_
                      refine gl_645 E hW r1414121 ⟨by omega, by omega⟩ dX2_weeksOf_81 (fun y1414122 m1414123 => ?_)
                      refine lv_istore_n (lv' := [(2, .int y1414122), (5, .int y1414003), (4, .ref a1413133), (3, .int y1412122), (0, .ref h0), (1, .int u1)]) hx hb dX2_weeksOf_82 rfl hl (by decide) rfl (fun ls hl => ?_)
                      exact J1414101 f1414106 y1414122 ((fm_I g1414108 r1413134 rfl).trans m1414008) ((fm_R g1414108 r1413134 rfl).trans m1414070) ((fm_I g1414108 rh0 rfl).trans m1414001) ((fm_R g1414108 rh0 rfl).trans m1414002) _ _ _ hW hF (lv_sub hl [1, 2, 3, 0, 4, 5] rfl)
          have hk1414125 : (0 : Int32).toInt = 0 := rfl
          exact L1414006 13 f1412121 0 y1412124 m1412127 m1413128 (by decide) (by omega) _ _ _ hW hF (lv_sub hl [0, 1, 2, 3, 4, 5] rfl)
  have hk1414126 : (0 : Int32).toInt = 0 := rfl
  have hk1414127 : (4 : Int32).toInt = 4 := rfl
  exact L1412125 21 f0 0 4 (by decide) (by omega) _ _ _ hW hF (lv_sub hl [0, 1, 2, 3] rfl)
