theorem dX0_advanceWrit_0 : decode cX0_advanceWrit 0 = .ok (.aload_n 0, 1) := by decide +kernel
theorem dX0_advanceWrit_1 : decode cX0_advanceWrit 1 = .ok (.getfield 28, 3) := by decide +kernel
theorem dX0_advanceWrit_4 : decode cX0_advanceWrit 4 = .ok (.getfield 235, 3) := by decide +kernel
theorem dX0_advanceWrit_7 : decode cX0_advanceWrit 7 = .ok (.iload_n 1, 1) := by decide +kernel
theorem dX0_advanceWrit_8 : decode cX0_advanceWrit 8 = .ok (.iaload, 1) := by decide +kernel
theorem dX0_advanceWrit_9 : decode cX0_advanceWrit 9 = .ok (.istore_n 2, 1) := by decide +kernel
theorem dX0_advanceWrit_10 : decode cX0_advanceWrit 10 = .ok (.aload_n 0, 1) := by decide +kernel
theorem dX0_advanceWrit_11 : decode cX0_advanceWrit 11 = .ok (.getfield 21, 3) := by decide +kernel
theorem dX0_advanceWrit_14 : decode cX0_advanceWrit 14 = .ok (.getfield 188, 3) := by decide +kernel
theorem dX0_advanceWrit_17 : decode cX0_advanceWrit 17 = .ok (.iload_n 2, 1) := by decide +kernel
theorem dX0_advanceWrit_18 : decode cX0_advanceWrit 18 = .ok (.iaload, 1) := by decide +kernel
theorem dX0_advanceWrit_19 : decode cX0_advanceWrit 19 = .ok (.ifCond .eq 24, 3) := by decide +kernel
theorem dX0_advanceWrit_43 : decode cX0_advanceWrit 43 = .ok (.aload_n 0, 1) := by decide +kernel
theorem dX0_advanceWrit_44 : decode cX0_advanceWrit 44 = .ok (.getfield 28, 3) := by decide +kernel
theorem dX0_advanceWrit_47 : decode cX0_advanceWrit 47 = .ok (.getfield 151, 3) := by decide +kernel
theorem dX0_advanceWrit_50 : decode cX0_advanceWrit 50 = .ok (.iload_n 1, 1) := by decide +kernel
theorem dX0_advanceWrit_51 : decode cX0_advanceWrit 51 = .ok (.iconst 0, 1) := by decide +kernel
theorem dX0_advanceWrit_52 : decode cX0_advanceWrit 52 = .ok (.iastore, 1) := by decide +kernel
theorem dX0_advanceWrit_53 : decode cX0_advanceWrit 53 = .ok (.return_, 1) := by decide +kernel
theorem dX0_advanceWrit_22 : decode cX0_advanceWrit 22 = .ok (.aload_n 0, 1) := by decide +kernel
theorem dX0_advanceWrit_23 : decode cX0_advanceWrit 23 = .ok (.getfield 21, 3) := by decide +kernel
theorem dX0_advanceWrit_26 : decode cX0_advanceWrit 26 = .ok (.getfield 124, 3) := by decide +kernel
theorem dX0_advanceWrit_29 : decode cX0_advanceWrit 29 = .ok (.iload_n 2, 1) := by decide +kernel
theorem dX0_advanceWrit_30 : decode cX0_advanceWrit 30 = .ok (.iaload, 1) := by decide +kernel
theorem dX0_advanceWrit_31 : decode cX0_advanceWrit 31 = .ok (.aload_n 0, 1) := by decide +kernel
theorem dX0_advanceWrit_32 : decode cX0_advanceWrit 32 = .ok (.getfield 28, 3) := by decide +kernel
theorem dX0_advanceWrit_35 : decode cX0_advanceWrit 35 = .ok (.getfield 238, 3) := by decide +kernel
theorem dX0_advanceWrit_38 : decode cX0_advanceWrit 38 = .ok (.iload_n 1, 1) := by decide +kernel
theorem dX0_advanceWrit_39 : decode cX0_advanceWrit 39 = .ok (.iaload, 1) := by decide +kernel
theorem dX0_advanceWrit_40 : decode cX0_advanceWrit 40 = .ok (.if_icmp .eq 14, 3) := by decide +kernel
theorem dX0_advanceWrit_54 : decode cX0_advanceWrit 54 = .ok (.aload_n 0, 1) := by decide +kernel
theorem dX0_advanceWrit_55 : decode cX0_advanceWrit 55 = .ok (.getfield 28, 3) := by decide +kernel
theorem dX0_advanceWrit_58 : decode cX0_advanceWrit 58 = .ok (.getfield 239, 3) := by decide +kernel
theorem dX0_advanceWrit_61 : decode cX0_advanceWrit 61 = .ok (.iload_n 1, 1) := by decide +kernel
theorem dX0_advanceWrit_62 : decode cX0_advanceWrit 62 = .ok (.iaload, 1) := by decide +kernel
theorem dX0_advanceWrit_63 : decode cX0_advanceWrit 63 = .ok (.aload_n 0, 1) := by decide +kernel
theorem dX0_advanceWrit_64 : decode cX0_advanceWrit 64 = .ok (.getfield 93, 3) := by decide +kernel
theorem dX0_advanceWrit_67 : decode cX0_advanceWrit 67 = .ok (.if_icmp .eq 18, 3) := by decide +kernel
theorem dX0_advanceWrit_85 : decode cX0_advanceWrit 85 = .ok (.return_, 1) := by decide +kernel
theorem dX0_advanceWrit_70 : decode cX0_advanceWrit 70 = .ok (.aload_n 0, 1) := by decide +kernel
theorem dX0_advanceWrit_71 : decode cX0_advanceWrit 71 = .ok (.getfield 28, 3) := by decide +kernel
theorem dX0_advanceWrit_74 : decode cX0_advanceWrit 74 = .ok (.iload_n 2, 1) := by decide +kernel
theorem dX0_advanceWrit_75 : decode cX0_advanceWrit 75 = .ok (.aload_n 0, 1) := by decide +kernel
theorem dX0_advanceWrit_76 : decode cX0_advanceWrit 76 = .ok (.getfield 93, 3) := by decide +kernel
theorem dX0_advanceWrit_79 : decode cX0_advanceWrit 79 = .ok (.invokevirtual 242, 3) := by decide +kernel
theorem dX10_isGuarded_0 : decode cX10_isGuarded 0 = .ok (.iconst 0, 1) := by decide +kernel
theorem dX10_isGuarded_1 : decode cX10_isGuarded 1 = .ok (.istore_n 3, 1) := by decide +kernel
theorem dX10_isGuarded_2 : decode cX10_isGuarded 2 = .ok (.iload_n 3, 1) := by decide +kernel
theorem dX10_isGuarded_3 : decode cX10_isGuarded 3 = .ok (.aload_n 0, 1) := by decide +kernel
theorem dX10_isGuarded_4 : decode cX10_isGuarded 4 = .ok (.getfield 43, 3) := by decide +kernel
theorem dX10_isGuarded_7 : decode cX10_isGuarded 7 = .ok (.if_icmp .ge 41, 3) := by decide +kernel
theorem dX10_isGuarded_10 : decode cX10_isGuarded 10 = .ok (.aload_n 0, 1) := by decide +kernel
theorem dX10_isGuarded_11 : decode cX10_isGuarded 11 = .ok (.getfield 30, 3) := by decide +kernel
theorem dX10_isGuarded_14 : decode cX10_isGuarded 14 = .ok (.iload_n 3, 1) := by decide +kernel
theorem dX10_isGuarded_15 : decode cX10_isGuarded 15 = .ok (.iaload, 1) := by decide +kernel
theorem dX10_isGuarded_16 : decode cX10_isGuarded 16 = .ok (.iload_n 1, 1) := by decide +kernel
theorem dX10_isGuarded_17 : decode cX10_isGuarded 17 = .ok (.if_icmp .ne 25, 3) := by decide +kernel
theorem dX10_isGuarded_42 : decode cX10_isGuarded 42 = .ok (.iinc 3 1, 3) := by decide +kernel
theorem dX10_isGuarded_45 : decode cX10_isGuarded 45 = .ok (.goto (-43), 3) := by decide +kernel
theorem dX10_isGuarded_20 : decode cX10_isGuarded 20 = .ok (.iload_n 2, 1) := by decide +kernel
theorem dX10_isGuarded_21 : decode cX10_isGuarded 21 = .ok (.aload_n 0, 1) := by decide +kernel
theorem dX10_isGuarded_22 : decode cX10_isGuarded 22 = .ok (.getfield 33, 3) := by decide +kernel
theorem dX10_isGuarded_25 : decode cX10_isGuarded 25 = .ok (.iload_n 3, 1) := by decide +kernel
theorem dX10_isGuarded_26 : decode cX10_isGuarded 26 = .ok (.iaload, 1) := by decide +kernel
theorem dX10_isGuarded_27 : decode cX10_isGuarded 27 = .ok (.if_icmp .lt 15, 3) := by decide +kernel
theorem dX10_isGuarded_30 : decode cX10_isGuarded 30 = .ok (.iload_n 2, 1) := by decide +kernel
theorem dX10_isGuarded_31 : decode cX10_isGuarded 31 = .ok (.aload_n 0, 1) := by decide +kernel
theorem dX10_isGuarded_32 : decode cX10_isGuarded 32 = .ok (.getfield 36, 3) := by decide +kernel
theorem dX10_isGuarded_35 : decode cX10_isGuarded 35 = .ok (.iload_n 3, 1) := by decide +kernel
theorem dX10_isGuarded_36 : decode cX10_isGuarded 36 = .ok (.iaload, 1) := by decide +kernel
theorem dX10_isGuarded_37 : decode cX10_isGuarded 37 = .ok (.if_icmp .gt 5, 3) := by decide +kernel
theorem dX10_isGuarded_40 : decode cX10_isGuarded 40 = .ok (.iconst 1, 1) := by decide +kernel
theorem dX10_isGuarded_41 : decode cX10_isGuarded 41 = .ok (.ireturn, 1) := by decide +kernel
theorem dX10_isGuarded_48 : decode cX10_isGuarded 48 = .ok (.iconst 0, 1) := by decide +kernel
theorem dX10_isGuarded_49 : decode cX10_isGuarded 49 = .ok (.ireturn, 1) := by decide +kernel
theorem dX0_advanceWrit_82 : decode cX0_advanceWrit 82 = .ok (.ifCond .eq 4, 3) := by decide +kernel
theorem dX0_advanceWrit_86 : decode cX0_advanceWrit 86 = .ok (.aload_n 0, 1) := by decide +kernel
theorem dX0_advanceWrit_87 : decode cX0_advanceWrit 87 = .ok (.getfield 28, 3) := by decide +kernel
theorem dX0_advanceWrit_90 : decode cX0_advanceWrit 90 = .ok (.getfield 246, 3) := by decide +kernel
theorem dX0_advanceWrit_93 : decode cX0_advanceWrit 93 = .ok (.iload_n 1, 1) := by decide +kernel
theorem dX0_advanceWrit_94 : decode cX0_advanceWrit 94 = .ok (.dup2, 1) := by decide +kernel
theorem dX0_advanceWrit_95 : decode cX0_advanceWrit 95 = .ok (.iaload, 1) := by decide +kernel
theorem dX0_advanceWrit_96 : decode cX0_advanceWrit 96 = .ok (.iconst 1, 1) := by decide +kernel
theorem dX0_advanceWrit_97 : decode cX0_advanceWrit 97 = .ok (.isub, 1) := by decide +kernel
theorem dX0_advanceWrit_98 : decode cX0_advanceWrit 98 = .ok (.iastore, 1) := by decide +kernel
theorem dX0_advanceWrit_99 : decode cX0_advanceWrit 99 = .ok (.aload_n 0, 1) := by decide +kernel
theorem dX0_advanceWrit_100 : decode cX0_advanceWrit 100 = .ok (.getfield 28, 3) := by decide +kernel
theorem dX0_advanceWrit_103 : decode cX0_advanceWrit 103 = .ok (.getfield 246, 3) := by decide +kernel
theorem dX0_advanceWrit_106 : decode cX0_advanceWrit 106 = .ok (.iload_n 1, 1) := by decide +kernel
theorem dX0_advanceWrit_107 : decode cX0_advanceWrit 107 = .ok (.iaload, 1) := by decide +kernel
theorem dX0_advanceWrit_108 : decode cX0_advanceWrit 108 = .ok (.ifCond .le 4, 3) := by decide +kernel
theorem dX0_advanceWrit_112 : decode cX0_advanceWrit 112 = .ok (.aload_n 0, 1) := by decide +kernel
theorem dX0_advanceWrit_113 : decode cX0_advanceWrit 113 = .ok (.getfield 28, 3) := by decide +kernel
theorem dX0_advanceWrit_116 : decode cX0_advanceWrit 116 = .ok (.getfield 249, 3) := by decide +kernel
theorem dX0_advanceWrit_119 : decode cX0_advanceWrit 119 = .ok (.iload_n 1, 1) := by decide +kernel
theorem dX0_advanceWrit_120 : decode cX0_advanceWrit 120 = .ok (.dup2, 1) := by decide +kernel
theorem dX0_advanceWrit_121 : decode cX0_advanceWrit 121 = .ok (.iaload, 1) := by decide +kernel
theorem dX0_advanceWrit_122 : decode cX0_advanceWrit 122 = .ok (.iconst 1, 1) := by decide +kernel
theorem dX0_advanceWrit_123 : decode cX0_advanceWrit 123 = .ok (.iadd, 1) := by decide +kernel
theorem dX0_advanceWrit_124 : decode cX0_advanceWrit 124 = .ok (.iastore, 1) := by decide +kernel
theorem dX0_advanceWrit_125 : decode cX0_advanceWrit 125 = .ok (.aload_n 0, 1) := by decide +kernel
theorem dX0_advanceWrit_126 : decode cX0_advanceWrit 126 = .ok (.getfield 28, 3) := by decide +kernel
theorem dX0_advanceWrit_129 : decode cX0_advanceWrit 129 = .ok (.getfield 249, 3) := by decide +kernel
theorem dX0_advanceWrit_132 : decode cX0_advanceWrit 132 = .ok (.iload_n 1, 1) := by decide +kernel
theorem dX0_advanceWrit_133 : decode cX0_advanceWrit 133 = .ok (.iaload, 1) := by decide +kernel
theorem dX0_advanceWrit_134 : decode cX0_advanceWrit 134 = .ok (.iconst 3, 1) := by decide +kernel
theorem dX0_advanceWrit_135 : decode cX0_advanceWrit 135 = .ok (.if_icmp .le 30, 3) := by decide +kernel
theorem dX0_advanceWrit_165 : decode cX0_advanceWrit 165 = .ok (.aload_n 0, 1) := by decide +kernel
theorem dX0_advanceWrit_166 : decode cX0_advanceWrit 166 = .ok (.getfield 28, 3) := by decide +kernel
theorem dX0_advanceWrit_169 : decode cX0_advanceWrit 169 = .ok (.getfield 246, 3) := by decide +kernel
theorem dX0_advanceWrit_172 : decode cX0_advanceWrit 172 = .ok (.iload_n 1, 1) := by decide +kernel
theorem dX0_advanceWrit_173 : decode cX0_advanceWrit 173 = .ok (.aload_n 0, 1) := by decide +kernel
theorem dX0_advanceWrit_174 : decode cX0_advanceWrit 174 = .ok (.getfield 42, 3) := by decide +kernel
theorem dX0_advanceWrit_177 : decode cX0_advanceWrit 177 = .ok (.aload_n 0, 1) := by decide +kernel
theorem dX0_advanceWrit_178 : decode cX0_advanceWrit 178 = .ok (.getfield 28, 3) := by decide +kernel
theorem dX0_advanceWrit_181 : decode cX0_advanceWrit 181 = .ok (.getfield 249, 3) := by decide +kernel
theorem dX0_advanceWrit_184 : decode cX0_advanceWrit 184 = .ok (.iload_n 1, 1) := by decide +kernel
theorem dX0_advanceWrit_185 : decode cX0_advanceWrit 185 = .ok (.iaload, 1) := by decide +kernel
theorem dX0_advanceWrit_186 : decode cX0_advanceWrit 186 = .ok (.invokevirtual 228, 3) := by decide +kernel
theorem dX2_weeksOf_0 : decode cX2_weeksOf 0 = .ok (.iconst 4, 1) := by decide +kernel
theorem dX2_weeksOf_1 : decode cX2_weeksOf 1 = .ok (.istore_n 2, 1) := by decide +kernel
theorem dX2_weeksOf_2 : decode cX2_weeksOf 2 = .ok (.iconst 0, 1) := by decide +kernel
theorem dX2_weeksOf_3 : decode cX2_weeksOf 3 = .ok (.istore_n 3, 1) := by decide +kernel
theorem dX2_weeksOf_4 : decode cX2_weeksOf 4 = .ok (.iload_n 3, 1) := by decide +kernel
theorem dX2_weeksOf_5 : decode cX2_weeksOf 5 = .ok (.aload_n 0, 1) := by decide +kernel
theorem dX2_weeksOf_6 : decode cX2_weeksOf 6 = .ok (.getfield 24, 3) := by decide +kernel
theorem dX2_weeksOf_9 : decode cX2_weeksOf 9 = .ok (.if_icmp .ge 86, 3) := by decide +kernel
theorem dX2_weeksOf_12 : decode cX2_weeksOf 12 = .ok (.aload_n 0, 1) := by decide +kernel
theorem dX2_weeksOf_13 : decode cX2_weeksOf 13 = .ok (.getfield 11, 3) := by decide +kernel
theorem dX2_weeksOf_16 : decode cX2_weeksOf 16 = .ok (.iload_n 3, 1) := by decide +kernel
theorem dX2_weeksOf_17 : decode cX2_weeksOf 17 = .ok (.aaload, 1) := by decide +kernel
theorem dX2_weeksOf_18 : decode cX2_weeksOf 18 = .ok (.astore 4, 2) := by decide +kernel
theorem dX2_weeksOf_20 : decode cX2_weeksOf 20 = .ok (.iconst 0, 1) := by decide +kernel
theorem dX2_weeksOf_21 : decode cX2_weeksOf 21 = .ok (.istore 5, 2) := by decide +kernel
theorem dX2_weeksOf_23 : decode cX2_weeksOf 23 = .ok (.aload 4, 2) := by decide +kernel
theorem dX2_weeksOf_25 : decode cX2_weeksOf 25 = .ok (.ifnull 64, 3) := by decide +kernel
theorem dX2_weeksOf_89 : decode cX2_weeksOf 89 = .ok (.iinc 3 1, 3) := by decide +kernel
theorem dX2_weeksOf_92 : decode cX2_weeksOf 92 = .ok (.goto (-88), 3) := by decide +kernel
theorem dX2_weeksOf_28 : decode cX2_weeksOf 28 = .ok (.iload 5, 2) := by decide +kernel
theorem dX2_weeksOf_30 : decode cX2_weeksOf 30 = .ok (.aload 4, 2) := by decide +kernel
theorem dX2_weeksOf_32 : decode cX2_weeksOf 32 = .ok (.getfield 28, 3) := by decide +kernel
theorem dX2_weeksOf_35 : decode cX2_weeksOf 35 = .ok (.if_icmp .ge 54, 3) := by decide +kernel
theorem dX2_weeksOf_38 : decode cX2_weeksOf 38 = .ok (.aload 4, 2) := by decide +kernel
theorem dX2_weeksOf_40 : decode cX2_weeksOf 40 = .ok (.getfield 40, 3) := by decide +kernel
theorem dX2_weeksOf_43 : decode cX2_weeksOf 43 = .ok (.iload 5, 2) := by decide +kernel
theorem dX2_weeksOf_45 : decode cX2_weeksOf 45 = .ok (.iaload, 1) := by decide +kernel
theorem dX2_weeksOf_46 : decode cX2_weeksOf 46 = .ok (.sipush 258, 3) := by decide +kernel
theorem dX2_weeksOf_49 : decode cX2_weeksOf 49 = .ok (.if_icmp .ne 34, 3) := by decide +kernel
theorem dX2_weeksOf_52 : decode cX2_weeksOf 52 = .ok (.aload_n 0, 1) := by decide +kernel
theorem dX2_weeksOf_53 : decode cX2_weeksOf 53 = .ok (.iload_n 3, 1) := by decide +kernel
theorem dX2_weeksOf_54 : decode cX2_weeksOf 54 = .ok (.iload 5, 2) := by decide +kernel
theorem dX2_weeksOf_56 : decode cX2_weeksOf 56 = .ok (.invokevirtual 43, 3) := by decide +kernel
theorem dX2_isInForce_0 : decode cX2_isInForce 0 = .ok (.aload_n 0, 1) := by decide +kernel
theorem dX2_isInForce_1 : decode cX2_isInForce 1 = .ok (.getfield 17, 3) := by decide +kernel
theorem dX2_isInForce_4 : decode cX2_isInForce 4 = .ok (.iload_n 1, 1) := by decide +kernel
theorem dX2_isInForce_5 : decode cX2_isInForce 5 = .ok (.iaload, 1) := by decide +kernel
theorem dX2_isInForce_6 : decode cX2_isInForce 6 = .ok (.iload_n 2, 1) := by decide +kernel
theorem dX2_isInForce_7 : decode cX2_isInForce 7 = .ok (.ishr, 1) := by decide +kernel
theorem dX2_isInForce_8 : decode cX2_isInForce 8 = .ok (.iconst 1, 1) := by decide +kernel
theorem dX2_isInForce_9 : decode cX2_isInForce 9 = .ok (.iand, 1) := by decide +kernel
theorem dX2_isInForce_10 : decode cX2_isInForce 10 = .ok (.iconst 1, 1) := by decide +kernel
theorem dX2_isInForce_11 : decode cX2_isInForce 11 = .ok (.if_icmp .ne 7, 3) := by decide +kernel
theorem dX2_isInForce_18 : decode cX2_isInForce 18 = .ok (.iconst 0, 1) := by decide +kernel
theorem dX2_isInForce_14 : decode cX2_isInForce 14 = .ok (.iconst 1, 1) := by decide +kernel
theorem dX2_isInForce_15 : decode cX2_isInForce 15 = .ok (.goto 4, 3) := by decide +kernel
theorem dX2_isInForce_19 : decode cX2_isInForce 19 = .ok (.ireturn, 1) := by decide +kernel
theorem dX2_weeksOf_59 : decode cX2_weeksOf 59 = .ok (.ifCond .eq 24, 3) := by decide +kernel
theorem dX2_weeksOf_62 : decode cX2_weeksOf 62 = .ok (.aload 4, 2) := by decide +kernel
theorem dX2_weeksOf_64 : decode cX2_weeksOf 64 = .ok (.getfield 47, 3) := by decide +kernel
theorem dX2_weeksOf_67 : decode cX2_weeksOf 67 = .ok (.iload 5, 2) := by decide +kernel
theorem dX2_weeksOf_69 : decode cX2_weeksOf 69 = .ok (.iaload, 1) := by decide +kernel
theorem dX2_weeksOf_70 : decode cX2_weeksOf 70 = .ok (.iload_n 1, 1) := by decide +kernel
theorem dX2_weeksOf_71 : decode cX2_weeksOf 71 = .ok (.if_icmp .ne 12, 3) := by decide +kernel
theorem dX2_weeksOf_74 : decode cX2_weeksOf 74 = .ok (.aload 4, 2) := by decide +kernel
theorem dX2_weeksOf_76 : decode cX2_weeksOf 76 = .ok (.getfield 50, 3) := by decide +kernel
theorem dX2_weeksOf_79 : decode cX2_weeksOf 79 = .ok (.iload 5, 2) := by decide +kernel
theorem dX2_weeksOf_81 : decode cX2_weeksOf 81 = .ok (.iaload, 1) := by decide +kernel
theorem dX2_weeksOf_82 : decode cX2_weeksOf 82 = .ok (.istore_n 2, 1) := by decide +kernel
theorem dX2_weeksOf_83 : decode cX2_weeksOf 83 = .ok (.iinc 5 1, 3) := by decide +kernel
theorem dX2_weeksOf_86 : decode cX2_weeksOf 86 = .ok (.goto (-63), 3) := by decide +kernel
theorem dX2_weeksOf_95 : decode cX2_weeksOf 95 = .ok (.iload_n 2, 1) := by decide +kernel
theorem dX2_weeksOf_96 : decode cX2_weeksOf 96 = .ok (.ireturn, 1) := by decide +kernel
theorem dX0_advanceWrit_189 : decode cX0_advanceWrit 189 = .ok (.iastore, 1) := by decide +kernel
theorem dX0_advanceWrit_138 : decode cX0_advanceWrit 138 = .ok (.aload_n 0, 1) := by decide +kernel
theorem dX0_advanceWrit_139 : decode cX0_advanceWrit 139 = .ok (.getfield 28, 3) := by decide +kernel
theorem dX0_advanceWrit_142 : decode cX0_advanceWrit 142 = .ok (.getfield 151, 3) := by decide +kernel
theorem dX0_advanceWrit_145 : decode cX0_advanceWrit 145 = .ok (.iload_n 1, 1) := by decide +kernel
theorem dX0_advanceWrit_146 : decode cX0_advanceWrit 146 = .ok (.iconst 0, 1) := by decide +kernel
theorem dX0_advanceWrit_147 : decode cX0_advanceWrit 147 = .ok (.iastore, 1) := by decide +kernel
theorem dX0_advanceWrit_148 : decode cX0_advanceWrit 148 = .ok (.aload_n 0, 1) := by decide +kernel
theorem dX0_advanceWrit_149 : decode cX0_advanceWrit 149 = .ok (.iload_n 2, 1) := by decide +kernel
theorem dX0_advanceWrit_150 : decode cX0_advanceWrit 150 = .ok (.aload_n 0, 1) := by decide +kernel
theorem dX0_advanceWrit_151 : decode cX0_advanceWrit 151 = .ok (.getfield 28, 3) := by decide +kernel
theorem dX0_advanceWrit_154 : decode cX0_advanceWrit 154 = .ok (.getfield 238, 3) := by decide +kernel
theorem dX0_advanceWrit_157 : decode cX0_advanceWrit 157 = .ok (.iload_n 1, 1) := by decide +kernel
theorem dX0_advanceWrit_158 : decode cX0_advanceWrit 158 = .ok (.iaload, 1) := by decide +kernel
theorem dX0_advanceWrit_159 : decode cX0_advanceWrit 159 = .ok (.invokevirtual 252, 3) := by decide +kernel
theorem dX0_putOut_0 : decode cX0_putOut 0 = .ok (.aload_n 0, 1) := by decide +kernel
theorem dX0_putOut_1 : decode cX0_putOut 1 = .ok (.dup, 1) := by decide +kernel
theorem dX0_putOut_2 : decode cX0_putOut 2 = .ok (.getfield 100, 3) := by decide +kernel
theorem dX0_putOut_5 : decode cX0_putOut 5 = .ok (.iconst 1, 1) := by decide +kernel
theorem dX0_putOut_6 : decode cX0_putOut 6 = .ok (.iadd, 1) := by decide +kernel
theorem dX0_putOut_7 : decode cX0_putOut 7 = .ok (.putfield 100, 3) := by decide +kernel
theorem dX0_putOut_10 : decode cX0_putOut 10 = .ok (.aload_n 0, 1) := by decide +kernel
theorem dX0_putOut_11 : decode cX0_putOut 11 = .ok (.getfield 21, 3) := by decide +kernel
theorem dX0_putOut_14 : decode cX0_putOut 14 = .ok (.getfield 124, 3) := by decide +kernel
theorem dX0_putOut_17 : decode cX0_putOut 17 = .ok (.iload_n 1, 1) := by decide +kernel
theorem dX0_putOut_18 : decode cX0_putOut 18 = .ok (.iconst (-1), 1) := by decide +kernel
theorem dX0_putOut_19 : decode cX0_putOut 19 = .ok (.iastore, 1) := by decide +kernel
theorem dX0_putOut_20 : decode cX0_putOut 20 = .ok (.aload_n 0, 1) := by decide +kernel
theorem dX0_putOut_21 : decode cX0_putOut 21 = .ok (.getfield 21, 3) := by decide +kernel
theorem dX0_putOut_24 : decode cX0_putOut 24 = .ok (.getfield 127, 3) := by decide +kernel
theorem dX0_putOut_27 : decode cX0_putOut 27 = .ok (.iload_n 1, 1) := by decide +kernel
theorem dX0_putOut_28 : decode cX0_putOut 28 = .ok (.iconst 0, 1) := by decide +kernel
theorem dX0_putOut_29 : decode cX0_putOut 29 = .ok (.iastore, 1) := by decide +kernel
theorem dX0_putOut_30 : decode cX0_putOut 30 = .ok (.aload_n 0, 1) := by decide +kernel
theorem dX0_putOut_31 : decode cX0_putOut 31 = .ok (.getfield 21, 3) := by decide +kernel
theorem dX0_putOut_34 : decode cX0_putOut 34 = .ok (.getfield 256, 3) := by decide +kernel
theorem dX0_putOut_37 : decode cX0_putOut 37 = .ok (.iload_n 1, 1) := by decide +kernel
theorem dX0_putOut_38 : decode cX0_putOut 38 = .ok (.iconst 1, 1) := by decide +kernel
theorem dX0_putOut_39 : decode cX0_putOut 39 = .ok (.iastore, 1) := by decide +kernel
theorem dX0_putOut_40 : decode cX0_putOut 40 = .ok (.aload_n 0, 1) := by decide +kernel
theorem dX0_putOut_41 : decode cX0_putOut 41 = .ok (.getfield 12, 3) := by decide +kernel
theorem dX0_putOut_44 : decode cX0_putOut 44 = .ok (.getfield 182, 3) := by decide +kernel
theorem dX0_putOut_47 : decode cX0_putOut 47 = .ok (.iload_n 2, 1) := by decide +kernel
theorem dX0_putOut_48 : decode cX0_putOut 48 = .ok (.iaload, 1) := by decide +kernel
theorem dX0_putOut_49 : decode cX0_putOut 49 = .ok (.ifCond .ne 37, 3) := by decide +kernel
theorem dX0_putOut_52 : decode cX0_putOut 52 = .ok (.aload_n 0, 1) := by decide +kernel
theorem dX0_putOut_53 : decode cX0_putOut 53 = .ok (.getfield 21, 3) := by decide +kernel
theorem dX0_putOut_56 : decode cX0_putOut 56 = .ok (.iload_n 2, 1) := by decide +kernel
theorem dX0_putOut_57 : decode cX0_putOut 57 = .ok (.invokevirtual 259, 3) := by decide +kernel
theorem dX1_isHeldBy_0 : decode cX1_isHeldBy 0 = .ok (.iconst 0, 1) := by decide +kernel
theorem dX1_isHeldBy_1 : decode cX1_isHeldBy 1 = .ok (.istore_n 2, 1) := by decide +kernel
theorem dX1_isHeldBy_2 : decode cX1_isHeldBy 2 = .ok (.iload_n 2, 1) := by decide +kernel
theorem dX1_isHeldBy_3 : decode cX1_isHeldBy 3 = .ok (.aload_n 0, 1) := by decide +kernel
theorem dX1_isHeldBy_4 : decode cX1_isHeldBy 4 = .ok (.getfield 46, 3) := by decide +kernel
theorem dX1_isHeldBy_7 : decode cX1_isHeldBy 7 = .ok (.if_icmp .ge 21, 3) := by decide +kernel
theorem dX1_isHeldBy_10 : decode cX1_isHeldBy 10 = .ok (.aload_n 0, 1) := by decide +kernel
theorem dX1_isHeldBy_11 : decode cX1_isHeldBy 11 = .ok (.getfield 21, 3) := by decide +kernel
theorem dX1_isHeldBy_14 : decode cX1_isHeldBy 14 = .ok (.iload_n 2, 1) := by decide +kernel
theorem dX1_isHeldBy_15 : decode cX1_isHeldBy 15 = .ok (.iaload, 1) := by decide +kernel
theorem dX1_isHeldBy_16 : decode cX1_isHeldBy 16 = .ok (.iload_n 1, 1) := by decide +kernel
theorem dX1_isHeldBy_17 : decode cX1_isHeldBy 17 = .ok (.if_icmp .ne 5, 3) := by decide +kernel
theorem dX1_isHeldBy_22 : decode cX1_isHeldBy 22 = .ok (.iinc 2 1, 3) := by decide +kernel
theorem dX1_isHeldBy_25 : decode cX1_isHeldBy 25 = .ok (.goto (-23), 3) := by decide +kernel
theorem dX1_isHeldBy_20 : decode cX1_isHeldBy 20 = .ok (.iconst 1, 1) := by decide +kernel
theorem dX1_isHeldBy_21 : decode cX1_isHeldBy 21 = .ok (.ireturn, 1) := by decide +kernel
theorem dX1_isHeldBy_28 : decode cX1_isHeldBy 28 = .ok (.iconst 0, 1) := by decide +kernel
theorem dX1_isHeldBy_29 : decode cX1_isHeldBy 29 = .ok (.ireturn, 1) := by decide +kernel
theorem dX0_putOut_60 : decode cX0_putOut 60 = .ok (.ifCond .ne 26, 3) := by decide +kernel
theorem dX0_putOut_63 : decode cX0_putOut 63 = .ok (.aload_n 0, 1) := by decide +kernel
theorem dX0_putOut_64 : decode cX0_putOut 64 = .ok (.getfield 12, 3) := by decide +kernel
theorem dX0_putOut_67 : decode cX0_putOut 67 = .ok (.getfield 182, 3) := by decide +kernel
theorem dX0_putOut_70 : decode cX0_putOut 70 = .ok (.iload_n 2, 1) := by decide +kernel
theorem dX0_putOut_71 : decode cX0_putOut 71 = .ok (.iconst 1, 1) := by decide +kernel
theorem dX0_putOut_72 : decode cX0_putOut 72 = .ok (.iastore, 1) := by decide +kernel
theorem dX0_putOut_73 : decode cX0_putOut 73 = .ok (.aload_n 0, 1) := by decide +kernel
theorem dX0_putOut_74 : decode cX0_putOut 74 = .ok (.getfield 12, 3) := by decide +kernel
theorem dX0_putOut_77 : decode cX0_putOut 77 = .ok (.getfield 130, 3) := by decide +kernel
theorem dX0_putOut_80 : decode cX0_putOut 80 = .ok (.iload_n 2, 1) := by decide +kernel
theorem dX0_putOut_81 : decode cX0_putOut 81 = .ok (.aload_n 0, 1) := by decide +kernel
theorem dX0_putOut_82 : decode cX0_putOut 82 = .ok (.getfield 93, 3) := by decide +kernel
theorem dX0_putOut_85 : decode cX0_putOut 85 = .ok (.iastore, 1) := by decide +kernel
theorem dX0_putOut_86 : decode cX0_putOut 86 = .ok (.return_, 1) := by decide +kernel
theorem dX0_advanceWrit_162 : decode cX0_advanceWrit 162 = .ok (.goto 28, 3) := by decide +kernel
theorem dX0_advanceWrit_190 : decode cX0_advanceWrit 190 = .ok (.return_, 1) := by decide +kernel
theorem dX0_advanceWrit_111 : decode cX0_advanceWrit 111 = .ok (.return_, 1) := by decide +kernel
theorem dX0_anyHolds_0 : decode cX0_anyHolds 0 = .ok (.iconst 0, 1) := by decide +kernel
theorem dX0_anyHolds_1 : decode cX0_anyHolds 1 = .ok (.istore 4, 2) := by decide +kernel
theorem dX0_anyHolds_3 : decode cX0_anyHolds 3 = .ok (.iload 4, 2) := by decide +kernel
theorem dX0_anyHolds_5 : decode cX0_anyHolds 5 = .ok (.aload_n 0, 1) := by decide +kernel
theorem dX0_anyHolds_6 : decode cX0_anyHolds 6 = .ok (.getfield 42, 3) := by decide +kernel
theorem dX0_anyHolds_9 : decode cX0_anyHolds 9 = .ok (.getfield 286, 3) := by decide +kernel
theorem dX0_anyHolds_12 : decode cX0_anyHolds 12 = .ok (.if_icmp .ge 90, 3) := by decide +kernel
theorem dX0_anyHolds_15 : decode cX0_anyHolds 15 = .ok (.aload_n 0, 1) := by decide +kernel
theorem dX0_anyHolds_16 : decode cX0_anyHolds 16 = .ok (.getfield 42, 3) := by decide +kernel
theorem dX0_anyHolds_19 : decode cX0_anyHolds 19 = .ok (.getfield 287, 3) := by decide +kernel
theorem dX0_anyHolds_22 : decode cX0_anyHolds 22 = .ok (.iload 4, 2) := by decide +kernel
theorem dX0_anyHolds_24 : decode cX0_anyHolds 24 = .ok (.aaload, 1) := by decide +kernel
theorem dX0_anyHolds_25 : decode cX0_anyHolds 25 = .ok (.astore 5, 2) := by decide +kernel
theorem dX0_anyHolds_27 : decode cX0_anyHolds 27 = .ok (.iconst 0, 1) := by decide +kernel
theorem dX0_anyHolds_28 : decode cX0_anyHolds 28 = .ok (.istore 6, 2) := by decide +kernel
theorem dX0_anyHolds_30 : decode cX0_anyHolds 30 = .ok (.aload 5, 2) := by decide +kernel
theorem dX0_anyHolds_32 : decode cX0_anyHolds 32 = .ok (.ifnull 64, 3) := by decide +kernel
theorem dX0_anyHolds_96 : decode cX0_anyHolds 96 = .ok (.iinc 4 1, 3) := by decide +kernel
theorem dX0_anyHolds_99 : decode cX0_anyHolds 99 = .ok (.goto (-96), 3) := by decide +kernel
theorem dX0_anyHolds_35 : decode cX0_anyHolds 35 = .ok (.iload 6, 2) := by decide +kernel
theorem dX0_anyHolds_37 : decode cX0_anyHolds 37 = .ok (.aload 5, 2) := by decide +kernel
theorem dX0_anyHolds_39 : decode cX0_anyHolds 39 = .ok (.getfield 291, 3) := by decide +kernel
theorem dX0_anyHolds_42 : decode cX0_anyHolds 42 = .ok (.if_icmp .ge 54, 3) := by decide +kernel
theorem dX0_anyHolds_45 : decode cX0_anyHolds 45 = .ok (.aload 5, 2) := by decide +kernel
theorem dX0_anyHolds_47 : decode cX0_anyHolds 47 = .ok (.getfield 296, 3) := by decide +kernel
theorem dX0_anyHolds_50 : decode cX0_anyHolds 50 = .ok (.iload 6, 2) := by decide +kernel
theorem dX0_anyHolds_52 : decode cX0_anyHolds 52 = .ok (.iaload, 1) := by decide +kernel
theorem dX0_anyHolds_53 : decode cX0_anyHolds 53 = .ok (.iload_n 1, 1) := by decide +kernel
theorem dX0_anyHolds_54 : decode cX0_anyHolds 54 = .ok (.if_icmp .ne 36, 3) := by decide +kernel
theorem dX0_anyHolds_90 : decode cX0_anyHolds 90 = .ok (.iinc 6 1, 3) := by decide +kernel
theorem dX0_anyHolds_93 : decode cX0_anyHolds 93 = .ok (.goto (-63), 3) := by decide +kernel
theorem dX0_anyHolds_57 : decode cX0_anyHolds 57 = .ok (.aload_n 0, 1) := by decide +kernel
theorem dX0_anyHolds_58 : decode cX0_anyHolds 58 = .ok (.getfield 42, 3) := by decide +kernel
theorem dX0_anyHolds_61 : decode cX0_anyHolds 61 = .ok (.iload 4, 2) := by decide +kernel
theorem dX0_anyHolds_63 : decode cX0_anyHolds 63 = .ok (.iload 6, 2) := by decide +kernel
theorem dX0_anyHolds_65 : decode cX0_anyHolds 65 = .ok (.invokevirtual 299, 3) := by decide +kernel
theorem dX0_anyHolds_68 : decode cX0_anyHolds 68 = .ok (.ifCond .eq 22, 3) := by decide +kernel
theorem dX0_anyHolds_71 : decode cX0_anyHolds 71 = .ok (.aload_n 0, 1) := by decide +kernel
theorem dX0_anyHolds_72 : decode cX0_anyHolds 72 = .ok (.aload 5, 2) := by decide +kernel
theorem dX0_anyHolds_74 : decode cX0_anyHolds 74 = .ok (.iload 6, 2) := by decide +kernel
theorem dX0_anyHolds_76 : decode cX0_anyHolds 76 = .ok (.iload_n 2, 1) := by decide +kernel
theorem dX0_anyHolds_77 : decode cX0_anyHolds 77 = .ok (.iload_n 3, 1) := by decide +kernel
theorem dX0_anyHolds_78 : decode cX0_anyHolds 78 = .ok (.invokevirtual 302, 3) := by decide +kernel
theorem dX0_ask_0 : decode cX0_ask 0 = .ok (.iconst 0, 1) := by decide +kernel
theorem dX0_ask_1 : decode cX0_ask 1 = .ok (.istore 5, 2) := by decide +kernel
theorem dX0_ask_3 : decode cX0_ask 3 = .ok (.iconst 0, 1) := by decide +kernel
theorem dX0_ask_4 : decode cX0_ask 4 = .ok (.istore 6, 2) := by decide +kernel
theorem dX0_ask_6 : decode cX0_ask 6 = .ok (.aload_n 0, 1) := by decide +kernel
theorem dX0_ask_7 : decode cX0_ask 7 = .ok (.getfield 57, 3) := by decide +kernel
theorem dX0_ask_10 : decode cX0_ask 10 = .ok (.iconst 0, 1) := by decide +kernel
theorem dX0_ask_11 : decode cX0_ask 11 = .ok (.lconst 0, 1) := by decide +kernel
theorem dX0_ask_12 : decode cX0_ask 12 = .ok (.lastore, 1) := by decide +kernel
theorem dX0_ask_13 : decode cX0_ask 13 = .ok (.aload_n 1, 1) := by decide +kernel
theorem dX0_ask_14 : decode cX0_ask 14 = .ok (.getfield 314, 3) := by decide +kernel
theorem dX0_ask_17 : decode cX0_ask 17 = .ok (.iload_n 2, 1) := by decide +kernel
theorem dX0_ask_18 : decode cX0_ask 18 = .ok (.iaload, 1) := by decide +kernel
theorem dX0_ask_19 : decode cX0_ask 19 = .ok (.istore 7, 2) := by decide +kernel
theorem dX0_ask_21 : decode cX0_ask 21 = .ok (.iload 7, 2) := by decide +kernel
theorem dX0_ask_23 : decode cX0_ask 23 = .ok (.aload_n 1, 1) := by decide +kernel
theorem dX0_ask_24 : decode cX0_ask 24 = .ok (.getfield 317, 3) := by decide +kernel
theorem dX0_ask_27 : decode cX0_ask 27 = .ok (.iload_n 2, 1) := by decide +kernel
theorem dX0_ask_28 : decode cX0_ask 28 = .ok (.iaload, 1) := by decide +kernel
theorem dX0_ask_29 : decode cX0_ask 29 = .ok (.if_icmp .ge 291, 3) := by decide +kernel
theorem dX0_ask_32 : decode cX0_ask 32 = .ok (.iload 7, 2) := by decide +kernel
theorem dX0_ask_34 : decode cX0_ask 34 = .ok (.iload 6, 2) := by decide +kernel
theorem dX0_ask_36 : decode cX0_ask 36 = .ok (.if_icmp .ge 6, 3) := by decide +kernel
theorem dX0_ask_42 : decode cX0_ask 42 = .ok (.aload_n 1, 1) := by decide +kernel
theorem dX0_ask_43 : decode cX0_ask 43 = .ok (.getfield 320, 3) := by decide +kernel
theorem dX0_ask_46 : decode cX0_ask 46 = .ok (.iload 7, 2) := by decide +kernel
theorem dX0_ask_48 : decode cX0_ask 48 = .ok (.iaload, 1) := by decide +kernel
theorem dX0_ask_49 : decode cX0_ask 49 = .ok (.istore 8, 2) := by decide +kernel
theorem dX0_ask_51 : decode cX0_ask 51 = .ok (.iload 8, 2) := by decide +kernel
theorem dX0_ask_53 : decode cX0_ask 53 = .ok (.sipush 301, 3) := by decide +kernel
theorem dX0_ask_56 : decode cX0_ask 56 = .ok (.if_icmp .eq 19, 3) := by decide +kernel
theorem dX0_ask_75 : decode cX0_ask 75 = .ok (.iload 5, 2) := by decide +kernel
theorem dX0_ask_77 : decode cX0_ask 77 = .ok (.bipush 64, 2) := by decide +kernel
theorem dX0_ask_79 : decode cX0_ask 79 = .ok (.if_icmp .lt 7, 3) := by decide +kernel
theorem dX0_ask_86 : decode cX0_ask 86 = .ok (.aload_n 0, 1) := by decide +kernel
theorem dX0_ask_87 : decode cX0_ask 87 = .ok (.getfield 57, 3) := by decide +kernel
theorem dX0_ask_90 : decode cX0_ask 90 = .ok (.iload 5, 2) := by decide +kernel
theorem dX0_ask_92 : decode cX0_ask 92 = .ok (.iload 8, 2) := by decide +kernel
theorem dX0_ask_94 : decode cX0_ask 94 = .ok (.sipush 301, 3) := by decide +kernel
theorem dX0_ask_97 : decode cX0_ask 97 = .ok (.if_icmp .ne 14, 3) := by decide +kernel
theorem dX0_ask_100 : decode cX0_ask 100 = .ok (.aload_n 1, 1) := by decide +kernel
theorem dX0_ask_101 : decode cX0_ask 101 = .ok (.getfield 323, 3) := by decide +kernel
theorem dX0_ask_104 : decode cX0_ask 104 = .ok (.iload 7, 2) := by decide +kernel
theorem dX0_ask_106 : decode cX0_ask 106 = .ok (.iaload, 1) := by decide +kernel
theorem dX0_ask_107 : decode cX0_ask 107 = .ok (.i2l, 1) := by decide +kernel
theorem dX0_ask_108 : decode cX0_ask 108 = .ok (.goto 13, 3) := by decide +kernel
theorem dX0_ask_121 : decode cX0_ask 121 = .ok (.lastore, 1) := by decide +kernel
theorem dX0_ask_122 : decode cX0_ask 122 = .ok (.iinc 5 1, 3) := by decide +kernel
theorem dX0_ask_125 : decode cX0_ask 125 = .ok (.goto 189, 3) := by decide +kernel
theorem dX0_ask_314 : decode cX0_ask 314 = .ok (.iinc 7 1, 3) := by decide +kernel
theorem dX0_ask_317 : decode cX0_ask 317 = .ok (.goto (-296), 3) := by decide +kernel
theorem dX0_ask_59 : decode cX0_ask 59 = .ok (.iload 8, 2) := by decide +kernel
theorem dX0_ask_61 : decode cX0_ask 61 = .ok (.sipush 268, 3) := by decide +kernel
theorem dX0_ask_64 : decode cX0_ask 64 = .ok (.if_icmp .lt 64, 3) := by decide +kernel
theorem dX0_ask_128 : decode cX0_ask 128 = .ok (.iload 5, 2) := by decide +kernel
theorem dX0_ask_130 : decode cX0_ask 130 = .ok (.iconst 1, 1) := by decide +kernel
theorem dX0_ask_131 : decode cX0_ask 131 = .ok (.if_icmp .ge 7, 3) := by decide +kernel
theorem dX0_ask_134 : decode cX0_ask 134 = .ok (.ldc2_w 306, 3) := by decide +kernel
theorem dX0_ask_137 : decode cX0_ask 137 = .ok (.lreturn, 1) := by decide +kernel
theorem dX0_ask_67 : decode cX0_ask 67 = .ok (.iload 8, 2) := by decide +kernel
theorem dX0_ask_69 : decode cX0_ask 69 = .ok (.sipush 282, 3) := by decide +kernel
theorem dX0_ask_72 : decode cX0_ask 72 = .ok (.if_icmp .gt 56, 3) := by decide +kernel
theorem dX0_ask_111 : decode cX0_ask 111 = .ok (.aload_n 0, 1) := by decide +kernel
theorem dX0_ask_112 : decode cX0_ask 112 = .ok (.iload 8, 2) := by decide +kernel
theorem dX0_ask_114 : decode cX0_ask 114 = .ok (.iload_n 3, 1) := by decide +kernel
theorem dX0_ask_115 : decode cX0_ask 115 = .ok (.iload 4, 2) := by decide +kernel
theorem dX0_ask_117 : decode cX0_ask 117 = .ok (.invokevirtual 326, 3) := by decide +kernel
theorem dX0_wordOf_0 : decode cX0_wordOf 0 = .ok (.iload_n 1, 1) := by decide +kernel
theorem dX0_wordOf_1 : decode cX0_wordOf 1 = .ok (.sipush 276, 3) := by decide +kernel
theorem dX0_wordOf_4 : decode cX0_wordOf 4 = .ok (.if_icmp .gt 17, 3) := by decide +kernel
theorem dX0_wordOf_21 : decode cX0_wordOf 21 = .ok (.iload_n 1, 1) := by decide +kernel
theorem dX0_wordOf_22 : decode cX0_wordOf 22 = .ok (.sipush 280, 3) := by decide +kernel
theorem dX0_wordOf_25 : decode cX0_wordOf 25 = .ok (.if_icmp .gt 16, 3) := by decide +kernel
theorem dX0_wordOf_41 : decode cX0_wordOf 41 = .ok (.iload_n 1, 1) := by decide +kernel
theorem dX0_wordOf_42 : decode cX0_wordOf 42 = .ok (.tableswitch 236 268 282 #[124, 141, 160, 170, 187, 197, 207, 217, 227, 74, 84, 94, 104, 114, 119], 74) := by decide +kernel
theorem dX0_wordOf_156 : decode cX0_wordOf 156 = .ok (.aload_n 0, 1) := by decide +kernel
theorem dX0_wordOf_157 : decode cX0_wordOf 157 = .ok (.getfield 93, 3) := by decide +kernel
theorem dX0_wordOf_160 : decode cX0_wordOf 160 = .ok (.ireturn, 1) := by decide +kernel
theorem dX0_wordOf_161 : decode cX0_wordOf 161 = .ok (.aload_n 0, 1) := by decide +kernel
theorem dX0_wordOf_162 : decode cX0_wordOf 162 = .ok (.getfield 121, 3) := by decide +kernel
theorem dX0_wordOf_165 : decode cX0_wordOf 165 = .ok (.ireturn, 1) := by decide +kernel
theorem dX0_wordOf_278 : decode cX0_wordOf 278 = .ok (.iconst 0, 1) := by decide +kernel
theorem dX0_wordOf_279 : decode cX0_wordOf 279 = .ok (.ireturn, 1) := by decide +kernel
theorem dX0_wordOf_28 : decode cX0_wordOf 28 = .ok (.aload_n 0, 1) := by decide +kernel
theorem dX0_wordOf_29 : decode cX0_wordOf 29 = .ok (.getfield 21, 3) := by decide +kernel
theorem dX0_wordOf_32 : decode cX0_wordOf 32 = .ok (.iload_n 3, 1) := by decide +kernel
theorem dX0_wordOf_33 : decode cX0_wordOf 33 = .ok (.invokevirtual 341, 3) := by decide +kernel
theorem dX1_has_0 : decode cX1_has 0 = .ok (.iload_n 1, 1) := by decide +kernel
theorem dX1_has_1 : decode cX1_has 1 = .ok (.ifCond .lt 15, 3) := by decide +kernel
theorem dX1_has_16 : decode cX1_has 16 = .ok (.iconst 0, 1) := by decide +kernel
theorem dX1_has_17 : decode cX1_has 17 = .ok (.ireturn, 1) := by decide +kernel
theorem dX1_has_4 : decode cX1_has 4 = .ok (.iload_n 1, 1) := by decide +kernel
theorem dX1_has_5 : decode cX1_has 5 = .ok (.aload_n 0, 1) := by decide +kernel
theorem dX1_has_6 : decode cX1_has 6 = .ok (.getfield 46, 3) := by decide +kernel
theorem dX1_has_9 : decode cX1_has 9 = .ok (.if_icmp .ge 7, 3) := by decide +kernel
theorem dX1_has_12 : decode cX1_has 12 = .ok (.iconst 1, 1) := by decide +kernel
theorem dX1_has_13 : decode cX1_has 13 = .ok (.goto 4, 3) := by decide +kernel
theorem dX0_wordOf_36 : decode cX0_wordOf 36 = .ok (.ifCond .ne 5, 3) := by decide +kernel
theorem dX0_wordOf_116 : decode cX0_wordOf 116 = .ok (.aload_n 0, 1) := by decide +kernel
theorem dX0_wordOf_117 : decode cX0_wordOf 117 = .ok (.getfield 21, 3) := by decide +kernel
theorem dX0_wordOf_120 : decode cX0_wordOf 120 = .ok (.getfield 172, 3) := by decide +kernel
theorem dX0_wordOf_123 : decode cX0_wordOf 123 = .ok (.iload_n 3, 1) := by decide +kernel
theorem dX0_wordOf_124 : decode cX0_wordOf 124 = .ok (.iaload, 1) := by decide +kernel
theorem dX0_wordOf_125 : decode cX0_wordOf 125 = .ok (.ireturn, 1) := by decide +kernel
theorem dX0_wordOf_126 : decode cX0_wordOf 126 = .ok (.aload_n 0, 1) := by decide +kernel
theorem dX0_wordOf_127 : decode cX0_wordOf 127 = .ok (.getfield 21, 3) := by decide +kernel
theorem dX0_wordOf_130 : decode cX0_wordOf 130 = .ok (.getfield 342, 3) := by decide +kernel
theorem dX0_wordOf_133 : decode cX0_wordOf 133 = .ok (.iload_n 3, 1) := by decide +kernel
theorem dX0_wordOf_134 : decode cX0_wordOf 134 = .ok (.iaload, 1) := by decide +kernel
theorem dX0_wordOf_135 : decode cX0_wordOf 135 = .ok (.ireturn, 1) := by decide +kernel
theorem dX0_wordOf_136 : decode cX0_wordOf 136 = .ok (.aload_n 0, 1) := by decide +kernel
theorem dX0_wordOf_137 : decode cX0_wordOf 137 = .ok (.getfield 21, 3) := by decide +kernel
theorem dX0_wordOf_140 : decode cX0_wordOf 140 = .ok (.getfield 188, 3) := by decide +kernel
theorem dX0_wordOf_143 : decode cX0_wordOf 143 = .ok (.iload_n 3, 1) := by decide +kernel
theorem dX0_wordOf_144 : decode cX0_wordOf 144 = .ok (.iaload, 1) := by decide +kernel
theorem dX0_wordOf_145 : decode cX0_wordOf 145 = .ok (.ireturn, 1) := by decide +kernel
theorem dX0_wordOf_146 : decode cX0_wordOf 146 = .ok (.aload_n 0, 1) := by decide +kernel
theorem dX0_wordOf_147 : decode cX0_wordOf 147 = .ok (.getfield 21, 3) := by decide +kernel
theorem dX0_wordOf_150 : decode cX0_wordOf 150 = .ok (.getfield 204, 3) := by decide +kernel
theorem dX0_wordOf_153 : decode cX0_wordOf 153 = .ok (.iload_n 3, 1) := by decide +kernel
theorem dX0_wordOf_154 : decode cX0_wordOf 154 = .ok (.iaload, 1) := by decide +kernel
theorem dX0_wordOf_155 : decode cX0_wordOf 155 = .ok (.ireturn, 1) := by decide +kernel
theorem dX0_wordOf_39 : decode cX0_wordOf 39 = .ok (.iconst 0, 1) := by decide +kernel
theorem dX0_wordOf_40 : decode cX0_wordOf 40 = .ok (.ireturn, 1) := by decide +kernel
theorem dX0_wordOf_7 : decode cX0_wordOf 7 = .ok (.aload_n 0, 1) := by decide +kernel
theorem dX0_wordOf_8 : decode cX0_wordOf 8 = .ok (.getfield 12, 3) := by decide +kernel
theorem dX0_wordOf_11 : decode cX0_wordOf 11 = .ok (.iload_n 2, 1) := by decide +kernel
theorem dX0_wordOf_12 : decode cX0_wordOf 12 = .ok (.invokevirtual 338, 3) := by decide +kernel
theorem dX4_has_0 : decode cX4_has 0 = .ok (.iload_n 1, 1) := by decide +kernel
theorem dX4_has_1 : decode cX4_has 1 = .ok (.ifCond .lt 15, 3) := by decide +kernel
theorem dX4_has_16 : decode cX4_has 16 = .ok (.iconst 0, 1) := by decide +kernel
theorem dX4_has_17 : decode cX4_has 17 = .ok (.ireturn, 1) := by decide +kernel
theorem dX4_has_4 : decode cX4_has 4 = .ok (.iload_n 1, 1) := by decide +kernel
theorem dX4_has_5 : decode cX4_has 5 = .ok (.aload_n 0, 1) := by decide +kernel
theorem dX4_has_6 : decode cX4_has 6 = .ok (.getfield 39, 3) := by decide +kernel
theorem dX4_has_9 : decode cX4_has 9 = .ok (.if_icmp .ge 7, 3) := by decide +kernel
theorem dX4_has_12 : decode cX4_has 12 = .ok (.iconst 1, 1) := by decide +kernel
theorem dX4_has_13 : decode cX4_has 13 = .ok (.goto 4, 3) := by decide +kernel
theorem dX0_wordOf_15 : decode cX0_wordOf 15 = .ok (.ifCond .ne 26, 3) := by decide +kernel
theorem dX0_wordOf_166 : decode cX0_wordOf 166 = .ok (.aload_n 0, 1) := by decide +kernel
theorem dX0_wordOf_167 : decode cX0_wordOf 167 = .ok (.getfield 21, 3) := by decide +kernel
theorem dX0_wordOf_170 : decode cX0_wordOf 170 = .ok (.iload_n 2, 1) := by decide +kernel
theorem dX0_wordOf_171 : decode cX0_wordOf 171 = .ok (.invokevirtual 259, 3) := by decide +kernel
theorem dX0_wordOf_174 : decode cX0_wordOf 174 = .ok (.ifCond .eq 7, 3) := by decide +kernel
theorem dX0_wordOf_181 : decode cX0_wordOf 181 = .ok (.iconst 0, 1) := by decide +kernel
theorem dX0_wordOf_177 : decode cX0_wordOf 177 = .ok (.iconst 1, 1) := by decide +kernel
theorem dX0_wordOf_178 : decode cX0_wordOf 178 = .ok (.goto 4, 3) := by decide +kernel
theorem dX0_wordOf_182 : decode cX0_wordOf 182 = .ok (.ireturn, 1) := by decide +kernel
theorem dX0_wordOf_183 : decode cX0_wordOf 183 = .ok (.aload_n 0, 1) := by decide +kernel
theorem dX0_wordOf_184 : decode cX0_wordOf 184 = .ok (.getfield 12, 3) := by decide +kernel
theorem dX0_wordOf_187 : decode cX0_wordOf 187 = .ok (.getfield 130, 3) := by decide +kernel
theorem dX0_wordOf_190 : decode cX0_wordOf 190 = .ok (.iload_n 2, 1) := by decide +kernel
theorem dX0_wordOf_191 : decode cX0_wordOf 191 = .ok (.iaload, 1) := by decide +kernel
theorem dX0_wordOf_192 : decode cX0_wordOf 192 = .ok (.iconst (-1), 1) := by decide +kernel
theorem dX0_wordOf_193 : decode cX0_wordOf 193 = .ok (.if_icmp .ne 7, 3) := by decide +kernel
theorem dX0_wordOf_200 : decode cX0_wordOf 200 = .ok (.iconst 1, 1) := by decide +kernel
theorem dX0_wordOf_196 : decode cX0_wordOf 196 = .ok (.iconst 0, 1) := by decide +kernel
theorem dX0_wordOf_197 : decode cX0_wordOf 197 = .ok (.goto 4, 3) := by decide +kernel
theorem dX0_wordOf_201 : decode cX0_wordOf 201 = .ok (.ireturn, 1) := by decide +kernel
theorem dX0_wordOf_202 : decode cX0_wordOf 202 = .ok (.aload_n 0, 1) := by decide +kernel
theorem dX0_wordOf_203 : decode cX0_wordOf 203 = .ok (.getfield 12, 3) := by decide +kernel
theorem dX0_wordOf_206 : decode cX0_wordOf 206 = .ok (.getfield 277, 3) := by decide +kernel
theorem dX0_wordOf_209 : decode cX0_wordOf 209 = .ok (.iload_n 2, 1) := by decide +kernel
theorem dX0_wordOf_210 : decode cX0_wordOf 210 = .ok (.iaload, 1) := by decide +kernel
theorem dX0_wordOf_211 : decode cX0_wordOf 211 = .ok (.ireturn, 1) := by decide +kernel
theorem dX0_wordOf_212 : decode cX0_wordOf 212 = .ok (.aload_n 0, 1) := by decide +kernel
theorem dX0_wordOf_213 : decode cX0_wordOf 213 = .ok (.getfield 21, 3) := by decide +kernel
theorem dX0_wordOf_216 : decode cX0_wordOf 216 = .ok (.iload_n 2, 1) := by decide +kernel
theorem dX0_wordOf_217 : decode cX0_wordOf 217 = .ok (.invokevirtual 345, 3) := by decide +kernel
theorem dX1_isGrabbedBy_0 : decode cX1_isGrabbedBy 0 = .ok (.iconst 0, 1) := by decide +kernel
theorem dX1_isGrabbedBy_1 : decode cX1_isGrabbedBy 1 = .ok (.istore_n 2, 1) := by decide +kernel
theorem dX1_isGrabbedBy_2 : decode cX1_isGrabbedBy 2 = .ok (.iload_n 2, 1) := by decide +kernel
theorem dX1_isGrabbedBy_3 : decode cX1_isGrabbedBy 3 = .ok (.aload_n 0, 1) := by decide +kernel
theorem dX1_isGrabbedBy_4 : decode cX1_isGrabbedBy 4 = .ok (.getfield 46, 3) := by decide +kernel
theorem dX1_isGrabbedBy_7 : decode cX1_isGrabbedBy 7 = .ok (.if_icmp .ge 31, 3) := by decide +kernel
theorem dX1_isGrabbedBy_10 : decode cX1_isGrabbedBy 10 = .ok (.aload_n 0, 1) := by decide +kernel
theorem dX1_isGrabbedBy_11 : decode cX1_isGrabbedBy 11 = .ok (.getfield 21, 3) := by decide +kernel
theorem dX1_isGrabbedBy_14 : decode cX1_isGrabbedBy 14 = .ok (.iload_n 2, 1) := by decide +kernel
theorem dX1_isGrabbedBy_15 : decode cX1_isGrabbedBy 15 = .ok (.iaload, 1) := by decide +kernel
theorem dX1_isGrabbedBy_16 : decode cX1_isGrabbedBy 16 = .ok (.iload_n 1, 1) := by decide +kernel
theorem dX1_isGrabbedBy_17 : decode cX1_isGrabbedBy 17 = .ok (.if_icmp .ne 15, 3) := by decide +kernel
theorem dX1_isGrabbedBy_32 : decode cX1_isGrabbedBy 32 = .ok (.iinc 2 1, 3) := by decide +kernel
theorem dX1_isGrabbedBy_35 : decode cX1_isGrabbedBy 35 = .ok (.goto (-33), 3) := by decide +kernel
theorem dX1_isGrabbedBy_20 : decode cX1_isGrabbedBy 20 = .ok (.aload_n 0, 1) := by decide +kernel
theorem dX1_isGrabbedBy_21 : decode cX1_isGrabbedBy 21 = .ok (.getfield 27, 3) := by decide +kernel
theorem dX1_isGrabbedBy_24 : decode cX1_isGrabbedBy 24 = .ok (.iload_n 2, 1) := by decide +kernel
theorem dX1_isGrabbedBy_25 : decode cX1_isGrabbedBy 25 = .ok (.iaload, 1) := by decide +kernel
theorem dX1_isGrabbedBy_26 : decode cX1_isGrabbedBy 26 = .ok (.iconst 1, 1) := by decide +kernel
theorem dX1_isGrabbedBy_27 : decode cX1_isGrabbedBy 27 = .ok (.if_icmp .ne 5, 3) := by decide +kernel
theorem dX1_isGrabbedBy_30 : decode cX1_isGrabbedBy 30 = .ok (.iconst 1, 1) := by decide +kernel
theorem dX1_isGrabbedBy_31 : decode cX1_isGrabbedBy 31 = .ok (.ireturn, 1) := by decide +kernel
theorem dX1_isGrabbedBy_38 : decode cX1_isGrabbedBy 38 = .ok (.iconst 0, 1) := by decide +kernel
theorem dX1_isGrabbedBy_39 : decode cX1_isGrabbedBy 39 = .ok (.ireturn, 1) := by decide +kernel
theorem dX0_wordOf_220 : decode cX0_wordOf 220 = .ok (.ifCond .eq 7, 3) := by decide +kernel
theorem dX0_wordOf_227 : decode cX0_wordOf 227 = .ok (.iconst 0, 1) := by decide +kernel
theorem dX0_wordOf_223 : decode cX0_wordOf 223 = .ok (.iconst 1, 1) := by decide +kernel
theorem dX0_wordOf_224 : decode cX0_wordOf 224 = .ok (.goto 4, 3) := by decide +kernel
theorem dX0_wordOf_228 : decode cX0_wordOf 228 = .ok (.ireturn, 1) := by decide +kernel
theorem dX0_wordOf_229 : decode cX0_wordOf 229 = .ok (.aload_n 0, 1) := by decide +kernel
theorem dX0_wordOf_230 : decode cX0_wordOf 230 = .ok (.getfield 12, 3) := by decide +kernel
theorem dX0_wordOf_233 : decode cX0_wordOf 233 = .ok (.getfield 213, 3) := by decide +kernel
theorem dX0_wordOf_236 : decode cX0_wordOf 236 = .ok (.iload_n 2, 1) := by decide +kernel
theorem dX0_wordOf_237 : decode cX0_wordOf 237 = .ok (.iaload, 1) := by decide +kernel
theorem dX0_wordOf_238 : decode cX0_wordOf 238 = .ok (.ireturn, 1) := by decide +kernel
theorem dX0_wordOf_239 : decode cX0_wordOf 239 = .ok (.aload_n 0, 1) := by decide +kernel
theorem dX0_wordOf_240 : decode cX0_wordOf 240 = .ok (.getfield 12, 3) := by decide +kernel
theorem dX0_wordOf_243 : decode cX0_wordOf 243 = .ok (.getfield 179, 3) := by decide +kernel
theorem dX0_wordOf_246 : decode cX0_wordOf 246 = .ok (.iload_n 2, 1) := by decide +kernel
theorem dX0_wordOf_247 : decode cX0_wordOf 247 = .ok (.iaload, 1) := by decide +kernel
theorem dX0_wordOf_248 : decode cX0_wordOf 248 = .ok (.ireturn, 1) := by decide +kernel
theorem dX0_wordOf_249 : decode cX0_wordOf 249 = .ok (.aload_n 0, 1) := by decide +kernel
theorem dX0_wordOf_250 : decode cX0_wordOf 250 = .ok (.getfield 12, 3) := by decide +kernel
theorem dX0_wordOf_253 : decode cX0_wordOf 253 = .ok (.getfield 348, 3) := by decide +kernel
theorem dX0_wordOf_256 : decode cX0_wordOf 256 = .ok (.iload_n 2, 1) := by decide +kernel
theorem dX0_wordOf_257 : decode cX0_wordOf 257 = .ok (.iaload, 1) := by decide +kernel
theorem dX0_wordOf_258 : decode cX0_wordOf 258 = .ok (.ireturn, 1) := by decide +kernel
theorem dX0_wordOf_259 : decode cX0_wordOf 259 = .ok (.aload_n 0, 1) := by decide +kernel
theorem dX0_wordOf_260 : decode cX0_wordOf 260 = .ok (.getfield 12, 3) := by decide +kernel
theorem dX0_wordOf_263 : decode cX0_wordOf 263 = .ok (.getfield 351, 3) := by decide +kernel
theorem dX0_wordOf_266 : decode cX0_wordOf 266 = .ok (.iload_n 2, 1) := by decide +kernel
theorem dX0_wordOf_267 : decode cX0_wordOf 267 = .ok (.iaload, 1) := by decide +kernel
theorem dX0_wordOf_268 : decode cX0_wordOf 268 = .ok (.ireturn, 1) := by decide +kernel
theorem dX0_wordOf_269 : decode cX0_wordOf 269 = .ok (.aload_n 0, 1) := by decide +kernel
theorem dX0_wordOf_270 : decode cX0_wordOf 270 = .ok (.getfield 12, 3) := by decide +kernel
theorem dX0_wordOf_273 : decode cX0_wordOf 273 = .ok (.iload_n 2, 1) := by decide +kernel
theorem dX0_wordOf_274 : decode cX0_wordOf 274 = .ok (.invokevirtual 354, 3) := by decide +kernel
theorem dX4_kinOf_0 : decode cX4_kinOf 0 = .ok (.iconst 0, 1) := by decide +kernel
theorem dX4_kinOf_1 : decode cX4_kinOf 1 = .ok (.istore_n 2, 1) := by decide +kernel
theorem dX4_kinOf_2 : decode cX4_kinOf 2 = .ok (.iconst 0, 1) := by decide +kernel
theorem dX4_kinOf_3 : decode cX4_kinOf 3 = .ok (.istore_n 3, 1) := by decide +kernel
theorem dX4_kinOf_4 : decode cX4_kinOf 4 = .ok (.iload_n 3, 1) := by decide +kernel
theorem dX4_kinOf_5 : decode cX4_kinOf 5 = .ok (.aload_n 0, 1) := by decide +kernel
theorem dX4_kinOf_6 : decode cX4_kinOf 6 = .ok (.getfield 39, 3) := by decide +kernel
theorem dX4_kinOf_9 : decode cX4_kinOf 9 = .ok (.if_icmp .ge 41, 3) := by decide +kernel
theorem dX4_kinOf_12 : decode cX4_kinOf 12 = .ok (.iload_n 3, 1) := by decide +kernel
theorem dX4_kinOf_13 : decode cX4_kinOf 13 = .ok (.iload_n 1, 1) := by decide +kernel
theorem dX4_kinOf_14 : decode cX4_kinOf 14 = .ok (.if_icmp .eq 30, 3) := by decide +kernel
theorem dX4_kinOf_17 : decode cX4_kinOf 17 = .ok (.aload_n 0, 1) := by decide +kernel
theorem dX4_kinOf_18 : decode cX4_kinOf 18 = .ok (.getfield 9, 3) := by decide +kernel
theorem dX4_kinOf_21 : decode cX4_kinOf 21 = .ok (.iload_n 3, 1) := by decide +kernel
theorem dX4_kinOf_22 : decode cX4_kinOf 22 = .ok (.iaload, 1) := by decide +kernel
theorem dX4_kinOf_23 : decode cX4_kinOf 23 = .ok (.aload_n 0, 1) := by decide +kernel
theorem dX4_kinOf_24 : decode cX4_kinOf 24 = .ok (.getfield 9, 3) := by decide +kernel
theorem dX4_kinOf_27 : decode cX4_kinOf 27 = .ok (.iload_n 1, 1) := by decide +kernel
theorem dX4_kinOf_28 : decode cX4_kinOf 28 = .ok (.iaload, 1) := by decide +kernel
theorem dX4_kinOf_29 : decode cX4_kinOf 29 = .ok (.if_icmp .ne 15, 3) := by decide +kernel
theorem dX4_kinOf_32 : decode cX4_kinOf 32 = .ok (.aload_n 0, 1) := by decide +kernel
theorem dX4_kinOf_33 : decode cX4_kinOf 33 = .ok (.getfield 27, 3) := by decide +kernel
theorem dX4_kinOf_36 : decode cX4_kinOf 36 = .ok (.iload_n 3, 1) := by decide +kernel
theorem dX4_kinOf_37 : decode cX4_kinOf 37 = .ok (.iaload, 1) := by decide +kernel
theorem dX4_kinOf_38 : decode cX4_kinOf 38 = .ok (.ifCond .ne 6, 3) := by decide +kernel
theorem dX4_kinOf_41 : decode cX4_kinOf 41 = .ok (.iinc 2 1, 3) := by decide +kernel
theorem dX4_kinOf_44 : decode cX4_kinOf 44 = .ok (.iinc 3 1, 3) := by decide +kernel
theorem dX4_kinOf_47 : decode cX4_kinOf 47 = .ok (.goto (-43), 3) := by decide +kernel
theorem dX4_kinOf_50 : decode cX4_kinOf 50 = .ok (.iload_n 2, 1) := by decide +kernel
theorem dX4_kinOf_51 : decode cX4_kinOf 51 = .ok (.ireturn, 1) := by decide +kernel
theorem dX0_wordOf_277 : decode cX0_wordOf 277 = .ok (.ireturn, 1) := by decide +kernel
theorem dX0_wordOf_18 : decode cX0_wordOf 18 = .ok (.goto 21, 3) := by decide +kernel
theorem dX0_ask_120 : decode cX0_ask 120 = .ok (.i2l, 1) := by decide +kernel
theorem dX0_ask_39 : decode cX0_ask 39 = .ok (.goto 275, 3) := by decide +kernel
theorem dX0_ask_138 : decode cX0_ask 138 = .ok (.aload_n 0, 1) := by decide +kernel
theorem dX0_ask_139 : decode cX0_ask 139 = .ok (.getfield 57, 3) := by decide +kernel
theorem dX0_ask_142 : decode cX0_ask 142 = .ok (.iload 5, 2) := by decide +kernel
theorem dX0_ask_144 : decode cX0_ask 144 = .ok (.iconst 1, 1) := by decide +kernel
theorem dX0_ask_145 : decode cX0_ask 145 = .ok (.isub, 1) := by decide +kernel
theorem dX0_ask_146 : decode cX0_ask 146 = .ok (.laload, 1) := by decide +kernel
theorem dX0_ask_147 : decode cX0_ask 147 = .ok (.lconst 0, 1) := by decide +kernel
theorem dX0_ask_148 : decode cX0_ask 148 = .ok (.lcmp, 1) := by decide +kernel
theorem dX0_ask_149 : decode cX0_ask 149 = .ok (.ifCond .eq 7, 3) := by decide +kernel
theorem dX0_ask_156 : decode cX0_ask 156 = .ok (.iconst 0, 1) := by decide +kernel
theorem dX0_ask_152 : decode cX0_ask 152 = .ok (.iconst 1, 1) := by decide +kernel
theorem dX0_ask_153 : decode cX0_ask 153 = .ok (.goto 4, 3) := by decide +kernel
theorem dX0_ask_157 : decode cX0_ask 157 = .ok (.istore 9, 2) := by decide +kernel
theorem dX0_ask_159 : decode cX0_ask 159 = .ok (.iload 8, 2) := by decide +kernel
theorem dX0_ask_161 : decode cX0_ask 161 = .ok (.sipush 267, 3) := by decide +kernel
theorem dX0_ask_164 : decode cX0_ask 164 = .ok (.if_icmp .ne 25, 3) := by decide +kernel
theorem dX0_ask_189 : decode cX0_ask 189 = .ok (.iload 8, 2) := by decide +kernel
theorem dX0_ask_191 : decode cX0_ask 191 = .ok (.sipush 259, 3) := by decide +kernel
theorem dX0_ask_194 : decode cX0_ask 194 = .ok (.if_icmp .ne 12, 3) := by decide +kernel
theorem dX0_ask_206 : decode cX0_ask 206 = .ok (.iload 8, 2) := by decide +kernel
theorem dX0_ask_208 : decode cX0_ask 208 = .ok (.sipush 265, 3) := by decide +kernel
theorem dX0_ask_211 : decode cX0_ask 211 = .ok (.if_icmp .ne 8, 3) := by decide +kernel
theorem dX0_ask_219 : decode cX0_ask 219 = .ok (.iload 8, 2) := by decide +kernel
theorem dX0_ask_221 : decode cX0_ask 221 = .ok (.sipush 266, 3) := by decide +kernel
theorem dX0_ask_224 : decode cX0_ask 224 = .ok (.if_icmp .ne 20, 3) := by decide +kernel
theorem dX0_ask_244 : decode cX0_ask 244 = .ok (.iinc 5 (-1), 3) := by decide +kernel
theorem dX0_ask_247 : decode cX0_ask 247 = .ok (.iload 8, 2) := by decide +kernel
theorem dX0_ask_249 : decode cX0_ask 249 = .ok (.sipush 256, 3) := by decide +kernel
theorem dX0_ask_252 : decode cX0_ask 252 = .ok (.if_icmp .ge 62, 3) := by decide +kernel
theorem dX0_ask_255 : decode cX0_ask 255 = .ok (.iload 5, 2) := by decide +kernel
theorem dX0_ask_257 : decode cX0_ask 257 = .ok (.iconst 1, 1) := by decide +kernel
theorem dX0_ask_258 : decode cX0_ask 258 = .ok (.if_icmp .ge 9, 3) := by decide +kernel
theorem dX0_ask_261 : decode cX0_ask 261 = .ok (.ldc2_w 306, 3) := by decide +kernel
theorem dX0_ask_264 : decode cX0_ask 264 = .ok (.goto 24, 3) := by decide +kernel
theorem dX0_ask_288 : decode cX0_ask 288 = .ok (.lstore 10, 2) := by decide +kernel
theorem dX0_ask_290 : decode cX0_ask 290 = .ok (.lload 10, 2) := by decide +kernel
theorem dX0_ask_292 : decode cX0_ask 292 = .ok (.ldc2_w 306, 3) := by decide +kernel
theorem dX0_ask_295 : decode cX0_ask 295 = .ok (.lcmp, 1) := by decide +kernel
theorem dX0_ask_296 : decode cX0_ask 296 = .ok (.ifCond .ne 7, 3) := by decide +kernel
theorem dX0_ask_299 : decode cX0_ask 299 = .ok (.ldc2_w 306, 3) := by decide +kernel
theorem dX0_ask_302 : decode cX0_ask 302 = .ok (.lreturn, 1) := by decide +kernel
theorem dX0_ask_227 : decode cX0_ask 227 = .ok (.iload 9, 2) := by decide +kernel
theorem dX0_ask_229 : decode cX0_ask 229 = .ok (.ifCond .ne 15, 3) := by decide +kernel
theorem dX0_ask_232 : decode cX0_ask 232 = .ok (.aload_n 1, 1) := by decide +kernel
theorem dX0_ask_233 : decode cX0_ask 233 = .ok (.getfield 323, 3) := by decide +kernel
theorem dX0_ask_236 : decode cX0_ask 236 = .ok (.iload 7, 2) := by decide +kernel
theorem dX0_ask_238 : decode cX0_ask 238 = .ok (.iaload, 1) := by decide +kernel
theorem dX0_ask_239 : decode cX0_ask 239 = .ok (.istore 6, 2) := by decide +kernel
theorem dX0_ask_241 : decode cX0_ask 241 = .ok (.goto 73, 3) := by decide +kernel
theorem dX0_ask_214 : decode cX0_ask 214 = .ok (.iload 9, 2) := by decide +kernel
theorem dX0_ask_216 : decode cX0_ask 216 = .ok (.ifCond .ne 16, 3) := by decide +kernel
theorem dX0_ask_197 : decode cX0_ask 197 = .ok (.iload 9, 2) := by decide +kernel
theorem dX0_ask_199 : decode cX0_ask 199 = .ok (.ifCond .ne 7, 3) := by decide +kernel
theorem dX0_ask_202 : decode cX0_ask 202 = .ok (.ldc2_w 306, 3) := by decide +kernel
theorem dX0_ask_205 : decode cX0_ask 205 = .ok (.lreturn, 1) := by decide +kernel
theorem dX0_ask_167 : decode cX0_ask 167 = .ok (.aload_n 0, 1) := by decide +kernel
theorem dX0_ask_168 : decode cX0_ask 168 = .ok (.getfield 57, 3) := by decide +kernel
theorem dX0_ask_171 : decode cX0_ask 171 = .ok (.iload 5, 2) := by decide +kernel
theorem dX0_ask_173 : decode cX0_ask 173 = .ok (.iconst 1, 1) := by decide +kernel
theorem dX0_ask_174 : decode cX0_ask 174 = .ok (.isub, 1) := by decide +kernel
theorem dX0_ask_175 : decode cX0_ask 175 = .ok (.iload 9, 2) := by decide +kernel
theorem dX0_ask_177 : decode cX0_ask 177 = .ok (.ifCond .eq 7, 3) := by decide +kernel
theorem dX0_ask_184 : decode cX0_ask 184 = .ok (.lconst 1, 1) := by decide +kernel
theorem dX0_ask_180 : decode cX0_ask 180 = .ok (.lconst 0, 1) := by decide +kernel
theorem dX0_ask_181 : decode cX0_ask 181 = .ok (.goto 4, 3) := by decide +kernel
theorem dX0_ask_185 : decode cX0_ask 185 = .ok (.lastore, 1) := by decide +kernel
theorem dX0_ask_186 : decode cX0_ask 186 = .ok (.goto 128, 3) := by decide +kernel
theorem dX0_ask_267 : decode cX0_ask 267 = .ok (.iload 8, 2) := by decide +kernel
theorem dX0_ask_269 : decode cX0_ask 269 = .ok (.aload_n 0, 1) := by decide +kernel
theorem dX0_ask_270 : decode cX0_ask 270 = .ok (.getfield 57, 3) := by decide +kernel
theorem dX0_ask_273 : decode cX0_ask 273 = .ok (.iload 5, 2) := by decide +kernel
theorem dX0_ask_275 : decode cX0_ask 275 = .ok (.iconst 1, 1) := by decide +kernel
theorem dX0_ask_276 : decode cX0_ask 276 = .ok (.isub, 1) := by decide +kernel
theorem dX0_ask_277 : decode cX0_ask 277 = .ok (.laload, 1) := by decide +kernel
theorem dX0_ask_278 : decode cX0_ask 278 = .ok (.aload_n 0, 1) := by decide +kernel
theorem dX0_ask_279 : decode cX0_ask 279 = .ok (.getfield 57, 3) := by decide +kernel
theorem dX0_ask_282 : decode cX0_ask 282 = .ok (.iload 5, 2) := by decide +kernel
theorem dX0_ask_284 : decode cX0_ask 284 = .ok (.laload, 1) := by decide +kernel
theorem dX0_ask_285 : decode cX0_ask 285 = .ok (.invokestatic 330, 3) := by decide +kernel
theorem dX0_join_0 : decode cX0_join 0 = .ok (.iload_n 0, 1) := by decide +kernel
theorem dX0_join_1 : decode cX0_join 1 = .ok (.lookupswitch 135 #[(42, 75), (43, 59), (45, 67), (47, 83), (60, 103), (62, 119)], 59) := by decide +kernel
theorem dX0_join_76 : decode cX0_join 76 = .ok (.lload_n 1, 1) := by decide +kernel
theorem dX0_join_77 : decode cX0_join 77 = .ok (.lload_n 3, 1) := by decide +kernel
theorem dX0_join_78 : decode cX0_join 78 = .ok (.lmul, 1) := by decide +kernel
theorem dX0_join_79 : decode cX0_join 79 = .ok (.lstore 5, 2) := by decide +kernel
theorem dX0_join_81 : decode cX0_join 81 = .ok (.goto 68, 3) := by decide +kernel
theorem dX0_join_60 : decode cX0_join 60 = .ok (.lload_n 1, 1) := by decide +kernel
theorem dX0_join_61 : decode cX0_join 61 = .ok (.lload_n 3, 1) := by decide +kernel
theorem dX0_join_62 : decode cX0_join 62 = .ok (.ladd, 1) := by decide +kernel
theorem dX0_join_63 : decode cX0_join 63 = .ok (.lstore 5, 2) := by decide +kernel
theorem dX0_join_65 : decode cX0_join 65 = .ok (.goto 84, 3) := by decide +kernel
theorem dX0_join_68 : decode cX0_join 68 = .ok (.lload_n 1, 1) := by decide +kernel
theorem dX0_join_69 : decode cX0_join 69 = .ok (.lload_n 3, 1) := by decide +kernel
theorem dX0_join_70 : decode cX0_join 70 = .ok (.lsub, 1) := by decide +kernel
theorem dX0_join_71 : decode cX0_join 71 = .ok (.lstore 5, 2) := by decide +kernel
theorem dX0_join_73 : decode cX0_join 73 = .ok (.goto 76, 3) := by decide +kernel
theorem dX0_join_84 : decode cX0_join 84 = .ok (.lload_n 3, 1) := by decide +kernel
theorem dX0_join_85 : decode cX0_join 85 = .ok (.lconst 0, 1) := by decide +kernel
theorem dX0_join_86 : decode cX0_join 86 = .ok (.lcmp, 1) := by decide +kernel
theorem dX0_join_87 : decode cX0_join 87 = .ok (.ifCond .ne 9, 3) := by decide +kernel
theorem dX0_join_96 : decode cX0_join 96 = .ok (.lload_n 1, 1) := by decide +kernel
theorem dX0_join_97 : decode cX0_join 97 = .ok (.lload_n 3, 1) := by decide +kernel
theorem dX0_join_98 : decode cX0_join 98 = .ok (.ldiv, 1) := by decide +kernel
theorem dX0_join_90 : decode cX0_join 90 = .ok (.ldc2_w 306, 3) := by decide +kernel
theorem dX0_join_93 : decode cX0_join 93 = .ok (.goto 6, 3) := by decide +kernel
theorem dX0_join_99 : decode cX0_join 99 = .ok (.lstore 5, 2) := by decide +kernel
theorem dX0_join_101 : decode cX0_join 101 = .ok (.goto 48, 3) := by decide +kernel
theorem dX0_join_104 : decode cX0_join 104 = .ok (.lload_n 1, 1) := by decide +kernel
theorem dX0_join_105 : decode cX0_join 105 = .ok (.lload_n 3, 1) := by decide +kernel
theorem dX0_join_106 : decode cX0_join 106 = .ok (.lcmp, 1) := by decide +kernel
theorem dX0_join_107 : decode cX0_join 107 = .ok (.ifCond .ge 7, 3) := by decide +kernel
theorem dX0_join_114 : decode cX0_join 114 = .ok (.lconst 0, 1) := by decide +kernel
theorem dX0_join_110 : decode cX0_join 110 = .ok (.lconst 1, 1) := by decide +kernel
theorem dX0_join_111 : decode cX0_join 111 = .ok (.goto 4, 3) := by decide +kernel
theorem dX0_join_115 : decode cX0_join 115 = .ok (.lstore 5, 2) := by decide +kernel
theorem dX0_join_117 : decode cX0_join 117 = .ok (.goto 32, 3) := by decide +kernel
theorem dX0_join_120 : decode cX0_join 120 = .ok (.lload_n 1, 1) := by decide +kernel
theorem dX0_join_121 : decode cX0_join 121 = .ok (.lload_n 3, 1) := by decide +kernel
theorem dX0_join_122 : decode cX0_join 122 = .ok (.lcmp, 1) := by decide +kernel
theorem dX0_join_123 : decode cX0_join 123 = .ok (.ifCond .le 7, 3) := by decide +kernel
theorem dX0_join_130 : decode cX0_join 130 = .ok (.lconst 0, 1) := by decide +kernel
theorem dX0_join_126 : decode cX0_join 126 = .ok (.lconst 1, 1) := by decide +kernel
theorem dX0_join_127 : decode cX0_join 127 = .ok (.goto 4, 3) := by decide +kernel
theorem dX0_join_131 : decode cX0_join 131 = .ok (.lstore 5, 2) := by decide +kernel
theorem dX0_join_133 : decode cX0_join 133 = .ok (.goto 16, 3) := by decide +kernel
theorem dX0_join_136 : decode cX0_join 136 = .ok (.lload_n 1, 1) := by decide +kernel
theorem dX0_join_137 : decode cX0_join 137 = .ok (.lload_n 3, 1) := by decide +kernel
theorem dX0_join_138 : decode cX0_join 138 = .ok (.lcmp, 1) := by decide +kernel
theorem dX0_join_139 : decode cX0_join 139 = .ok (.ifCond .ne 7, 3) := by decide +kernel
theorem dX0_join_146 : decode cX0_join 146 = .ok (.lconst 0, 1) := by decide +kernel
theorem dX0_join_142 : decode cX0_join 142 = .ok (.lconst 1, 1) := by decide +kernel
theorem dX0_join_143 : decode cX0_join 143 = .ok (.goto 4, 3) := by decide +kernel
theorem dX0_join_147 : decode cX0_join 147 = .ok (.lstore 5, 2) := by decide +kernel
theorem dX0_join_149 : decode cX0_join 149 = .ok (.lload 5, 2) := by decide +kernel
theorem dX0_join_151 : decode cX0_join 151 = .ok (.ldc2_w 334, 3) := by decide +kernel
theorem dX0_join_154 : decode cX0_join 154 = .ok (.lcmp, 1) := by decide +kernel
theorem dX0_join_155 : decode cX0_join 155 = .ok (.ifCond .lt 12, 3) := by decide +kernel
theorem dX0_join_167 : decode cX0_join 167 = .ok (.ldc2_w 306, 3) := by decide +kernel
theorem dX0_join_170 : decode cX0_join 170 = .ok (.goto 5, 3) := by decide +kernel
theorem dX0_join_158 : decode cX0_join 158 = .ok (.lload 5, 2) := by decide +kernel
theorem dX0_join_160 : decode cX0_join 160 = .ok (.ldc2_w 336, 3) := by decide +kernel
theorem dX0_join_163 : decode cX0_join 163 = .ok (.lcmp, 1) := by decide +kernel
theorem dX0_join_164 : decode cX0_join 164 = .ok (.ifCond .le 9, 3) := by decide +kernel
theorem dX0_join_173 : decode cX0_join 173 = .ok (.lload 5, 2) := by decide +kernel
theorem dX0_join_175 : decode cX0_join 175 = .ok (.lreturn, 1) := by decide +kernel
theorem dX0_ask_303 : decode cX0_ask 303 = .ok (.aload_n 0, 1) := by decide +kernel
theorem dX0_ask_304 : decode cX0_ask 304 = .ok (.getfield 57, 3) := by decide +kernel
theorem dX0_ask_307 : decode cX0_ask 307 = .ok (.iload 5, 2) := by decide +kernel
theorem dX0_ask_309 : decode cX0_ask 309 = .ok (.iconst 1, 1) := by decide +kernel
theorem dX0_ask_310 : decode cX0_ask 310 = .ok (.isub, 1) := by decide +kernel
theorem dX0_ask_311 : decode cX0_ask 311 = .ok (.lload 10, 2) := by decide +kernel
theorem dX0_ask_313 : decode cX0_ask 313 = .ok (.lastore, 1) := by decide +kernel
theorem dX0_ask_82 : decode cX0_ask 82 = .ok (.ldc2_w 306, 3) := by decide +kernel
theorem dX0_ask_85 : decode cX0_ask 85 = .ok (.lreturn, 1) := by decide +kernel
theorem dX0_ask_320 : decode cX0_ask 320 = .ok (.aload_n 0, 1) := by decide +kernel
theorem dX0_ask_321 : decode cX0_ask 321 = .ok (.getfield 57, 3) := by decide +kernel
theorem dX0_ask_324 : decode cX0_ask 324 = .ok (.iconst 0, 1) := by decide +kernel
theorem dX0_ask_325 : decode cX0_ask 325 = .ok (.laload, 1) := by decide +kernel
theorem dX0_ask_326 : decode cX0_ask 326 = .ok (.lreturn, 1) := by decide +kernel
theorem dX0_anyHolds_81 : decode cX0_anyHolds 81 = .ok (.ldc2_w 306, 3) := by decide +kernel
theorem dX0_anyHolds_84 : decode cX0_anyHolds 84 = .ok (.lcmp, 1) := by decide +kernel
theorem dX0_anyHolds_85 : decode cX0_anyHolds 85 = .ok (.ifCond .eq 5, 3) := by decide +kernel
theorem dX0_anyHolds_88 : decode cX0_anyHolds 88 = .ok (.iconst 1, 1) := by decide +kernel
theorem dX0_anyHolds_89 : decode cX0_anyHolds 89 = .ok (.ireturn, 1) := by decide +kernel
theorem dX0_anyHolds_102 : decode cX0_anyHolds 102 = .ok (.iconst 0, 1) := by decide +kernel
theorem dX0_anyHolds_103 : decode cX0_anyHolds 103 = .ok (.ireturn, 1) := by decide +kernel
theorem dX0_clauseHolds_0 : decode cX0_clauseHolds 0 = .ok (.aload_n 0, 1) := by decide +kernel
theorem dX0_clauseHolds_1 : decode cX0_clauseHolds 1 = .ok (.getfield 42, 3) := by decide +kernel
theorem dX0_clauseHolds_4 : decode cX0_clauseHolds 4 = .ok (.getfield 287, 3) := by decide +kernel
theorem dX0_clauseHolds_7 : decode cX0_clauseHolds 7 = .ok (.iload_n 1, 1) := by decide +kernel
theorem dX0_clauseHolds_8 : decode cX0_clauseHolds 8 = .ok (.aaload, 1) := by decide +kernel
theorem dX0_clauseHolds_9 : decode cX0_clauseHolds 9 = .ok (.astore 5, 2) := by decide +kernel
theorem dX0_clauseHolds_11 : decode cX0_clauseHolds 11 = .ok (.aload 5, 2) := by decide +kernel
theorem dX0_clauseHolds_13 : decode cX0_clauseHolds 13 = .ok (.ifnull 15, 3) := by decide +kernel
theorem dX0_clauseHolds_28 : decode cX0_clauseHolds 28 = .ok (.iconst 0, 1) := by decide +kernel
theorem dX0_clauseHolds_29 : decode cX0_clauseHolds 29 = .ok (.ireturn, 1) := by decide +kernel
theorem dX0_clauseHolds_16 : decode cX0_clauseHolds 16 = .ok (.aload_n 0, 1) := by decide +kernel
theorem dX0_clauseHolds_17 : decode cX0_clauseHolds 17 = .ok (.getfield 42, 3) := by decide +kernel
theorem dX0_clauseHolds_20 : decode cX0_clauseHolds 20 = .ok (.iload_n 1, 1) := by decide +kernel
theorem dX0_clauseHolds_21 : decode cX0_clauseHolds 21 = .ok (.iload_n 2, 1) := by decide +kernel
theorem dX0_clauseHolds_22 : decode cX0_clauseHolds 22 = .ok (.invokevirtual 299, 3) := by decide +kernel
theorem dX0_clauseHolds_25 : decode cX0_clauseHolds 25 = .ok (.ifCond .ne 5, 3) := by decide +kernel
theorem dX0_clauseHolds_30 : decode cX0_clauseHolds 30 = .ok (.aload 5, 2) := by decide +kernel
theorem dX0_clauseHolds_32 : decode cX0_clauseHolds 32 = .ok (.getfield 296, 3) := by decide +kernel
theorem dX0_clauseHolds_35 : decode cX0_clauseHolds 35 = .ok (.iload_n 2, 1) := by decide +kernel
theorem dX0_clauseHolds_36 : decode cX0_clauseHolds 36 = .ok (.iaload, 1) := by decide +kernel
theorem dX0_clauseHolds_37 : decode cX0_clauseHolds 37 = .ok (.istore 6, 2) := by decide +kernel
theorem dX0_clauseHolds_39 : decode cX0_clauseHolds 39 = .ok (.iload 6, 2) := by decide +kernel
theorem dX0_clauseHolds_41 : decode cX0_clauseHolds 41 = .ok (.sipush 256, 3) := by decide +kernel
theorem dX0_clauseHolds_44 : decode cX0_clauseHolds 44 = .ok (.if_icmp .eq 32, 3) := by decide +kernel
theorem dX0_clauseHolds_76 : decode cX0_clauseHolds 76 = .ok (.iconst 0, 1) := by decide +kernel
theorem dX0_clauseHolds_47 : decode cX0_clauseHolds 47 = .ok (.iload 6, 2) := by decide +kernel
theorem dX0_clauseHolds_49 : decode cX0_clauseHolds 49 = .ok (.sipush 258, 3) := by decide +kernel
theorem dX0_clauseHolds_52 : decode cX0_clauseHolds 52 = .ok (.if_icmp .eq 24, 3) := by decide +kernel
theorem dX0_clauseHolds_55 : decode cX0_clauseHolds 55 = .ok (.aload_n 0, 1) := by decide +kernel
theorem dX0_clauseHolds_56 : decode cX0_clauseHolds 56 = .ok (.aload 5, 2) := by decide +kernel
theorem dX0_clauseHolds_58 : decode cX0_clauseHolds 58 = .ok (.iload_n 2, 1) := by decide +kernel
theorem dX0_clauseHolds_59 : decode cX0_clauseHolds 59 = .ok (.iload_n 3, 1) := by decide +kernel
theorem dX0_clauseHolds_60 : decode cX0_clauseHolds 60 = .ok (.iload 4, 2) := by decide +kernel
theorem dX0_clauseHolds_62 : decode cX0_clauseHolds 62 = .ok (.invokevirtual 302, 3) := by decide +kernel
theorem dX0_clauseHolds_65 : decode cX0_clauseHolds 65 = .ok (.ldc2_w 306, 3) := by decide +kernel
theorem dX0_clauseHolds_68 : decode cX0_clauseHolds 68 = .ok (.lcmp, 1) := by decide +kernel
theorem dX0_clauseHolds_69 : decode cX0_clauseHolds 69 = .ok (.ifCond .eq 7, 3) := by decide +kernel
theorem dX0_clauseHolds_72 : decode cX0_clauseHolds 72 = .ok (.iconst 1, 1) := by decide +kernel
theorem dX0_clauseHolds_73 : decode cX0_clauseHolds 73 = .ok (.goto 4, 3) := by decide +kernel
theorem dX0_clauseHolds_77 : decode cX0_clauseHolds 77 = .ok (.ireturn, 1) := by decide +kernel
theorem dX0_collectRents_0 : decode cX0_collectRents 0 = .ok (.iconst 0, 1) := by decide +kernel
theorem dX0_collectRents_1 : decode cX0_collectRents 1 = .ok (.istore_n 1, 1) := by decide +kernel
theorem dX0_collectRents_2 : decode cX0_collectRents 2 = .ok (.iload_n 1, 1) := by decide +kernel
theorem dX0_collectRents_3 : decode cX0_collectRents 3 = .ok (.aload_n 0, 1) := by decide +kernel
theorem dX0_collectRents_4 : decode cX0_collectRents 4 = .ok (.getfield 21, 3) := by decide +kernel
theorem dX0_collectRents_7 : decode cX0_collectRents 7 = .ok (.getfield 171, 3) := by decide +kernel
theorem dX0_collectRents_10 : decode cX0_collectRents 10 = .ok (.if_icmp .ge 171, 3) := by decide +kernel
theorem dX0_collectRents_13 : decode cX0_collectRents 13 = .ok (.aload_n 0, 1) := by decide +kernel
theorem dX0_collectRents_14 : decode cX0_collectRents 14 = .ok (.getfield 21, 3) := by decide +kernel
theorem dX0_collectRents_17 : decode cX0_collectRents 17 = .ok (.getfield 124, 3) := by decide +kernel
theorem dX0_collectRents_20 : decode cX0_collectRents 20 = .ok (.iload_n 1, 1) := by decide +kernel
theorem dX0_collectRents_21 : decode cX0_collectRents 21 = .ok (.iaload, 1) := by decide +kernel
theorem dX0_collectRents_22 : decode cX0_collectRents 22 = .ok (.istore_n 2, 1) := by decide +kernel
theorem dX0_collectRents_23 : decode cX0_collectRents 23 = .ok (.iload_n 2, 1) := by decide +kernel
theorem dX0_collectRents_24 : decode cX0_collectRents 24 = .ok (.iconst (-1), 1) := by decide +kernel
theorem dX0_collectRents_25 : decode cX0_collectRents 25 = .ok (.if_icmp .eq 150, 3) := by decide +kernel
theorem dX0_collectRents_28 : decode cX0_collectRents 28 = .ok (.aload_n 0, 1) := by decide +kernel
theorem dX0_collectRents_29 : decode cX0_collectRents 29 = .ok (.getfield 12, 3) := by decide +kernel
theorem dX0_collectRents_32 : decode cX0_collectRents 32 = .ok (.getfield 182, 3) := by decide +kernel
theorem dX0_collectRents_35 : decode cX0_collectRents 35 = .ok (.iload_n 2, 1) := by decide +kernel
theorem dX0_collectRents_36 : decode cX0_collectRents 36 = .ok (.iaload, 1) := by decide +kernel
theorem dX0_collectRents_37 : decode cX0_collectRents 37 = .ok (.ifCond .ne 138, 3) := by decide +kernel
theorem dX0_collectRents_40 : decode cX0_collectRents 40 = .ok (.aload_n 0, 1) := by decide +kernel
theorem dX0_collectRents_41 : decode cX0_collectRents 41 = .ok (.getfield 21, 3) := by decide +kernel
theorem dX0_collectRents_44 : decode cX0_collectRents 44 = .ok (.iload_n 1, 1) := by decide +kernel
theorem dX0_collectRents_45 : decode cX0_collectRents 45 = .ok (.invokevirtual 185, 3) := by decide +kernel
theorem dX1_rentOf_0 : decode cX1_rentOf 0 = .ok (.aload_n 0, 1) := by decide +kernel
theorem dX1_rentOf_1 : decode cX1_rentOf 1 = .ok (.getfield 18, 3) := by decide +kernel
theorem dX1_rentOf_4 : decode cX1_rentOf 4 = .ok (.iload_n 1, 1) := by decide +kernel
theorem dX1_rentOf_5 : decode cX1_rentOf 5 = .ok (.iaload, 1) := by decide +kernel
theorem dX1_rentOf_6 : decode cX1_rentOf 6 = .ok (.iconst 0, 1) := by decide +kernel
theorem dX1_rentOf_7 : decode cX1_rentOf 7 = .ok (.invokestatic 52, 3) := by decide +kernel
theorem dX1_rentOf_10 : decode cX1_rentOf 10 = .ok (.ireturn, 1) := by decide +kernel
theorem dX0_collectRents_48 : decode cX0_collectRents 48 = .ok (.aload_n 0, 1) := by decide +kernel
theorem dX0_collectRents_49 : decode cX0_collectRents 49 = .ok (.getfield 21, 3) := by decide +kernel
theorem dX0_collectRents_52 : decode cX0_collectRents 52 = .ok (.getfield 188, 3) := by decide +kernel
theorem dX0_collectRents_55 : decode cX0_collectRents 55 = .ok (.iload_n 1, 1) := by decide +kernel
theorem dX0_collectRents_56 : decode cX0_collectRents 56 = .ok (.iaload, 1) := by decide +kernel
theorem dX0_collectRents_57 : decode cX0_collectRents 57 = .ok (.iadd, 1) := by decide +kernel
theorem dX0_collectRents_58 : decode cX0_collectRents 58 = .ok (.istore_n 3, 1) := by decide +kernel
theorem dX0_collectRents_59 : decode cX0_collectRents 59 = .ok (.aload_n 0, 1) := by decide +kernel
theorem dX0_collectRents_60 : decode cX0_collectRents 60 = .ok (.getfield 53, 3) := by decide +kernel
theorem dX0_collectRents_63 : decode cX0_collectRents 63 = .ok (.iload_n 1, 1) := by decide +kernel
theorem dX0_collectRents_64 : decode cX0_collectRents 64 = .ok (.iaload, 1) := by decide +kernel
theorem dX0_collectRents_65 : decode cX0_collectRents 65 = .ok (.iconst (-1), 1) := by decide +kernel
theorem dX0_collectRents_66 : decode cX0_collectRents 66 = .ok (.if_icmp .ne 15, 3) := by decide +kernel
theorem dX0_collectRents_81 : decode cX0_collectRents 81 = .ok (.aload_n 0, 1) := by decide +kernel
theorem dX0_collectRents_82 : decode cX0_collectRents 82 = .ok (.getfield 53, 3) := by decide +kernel
theorem dX0_collectRents_85 : decode cX0_collectRents 85 = .ok (.iload_n 1, 1) := by decide +kernel
theorem dX0_collectRents_86 : decode cX0_collectRents 86 = .ok (.iaload, 1) := by decide +kernel
theorem dX0_collectRents_87 : decode cX0_collectRents 87 = .ok (.iconst 1, 1) := by decide +kernel
theorem dX0_collectRents_88 : decode cX0_collectRents 88 = .ok (.if_icmp .ne 7, 3) := by decide +kernel
theorem dX0_collectRents_95 : decode cX0_collectRents 95 = .ok (.iconst 0, 1) := by decide +kernel
theorem dX0_collectRents_91 : decode cX0_collectRents 91 = .ok (.iconst 1, 1) := by decide +kernel
theorem dX0_collectRents_92 : decode cX0_collectRents 92 = .ok (.goto 4, 3) := by decide +kernel
theorem dX0_collectRents_69 : decode cX0_collectRents 69 = .ok (.aload_n 0, 1) := by decide +kernel
theorem dX0_collectRents_70 : decode cX0_collectRents 70 = .ok (.sipush 262, 3) := by decide +kernel
theorem dX0_collectRents_73 : decode cX0_collectRents 73 = .ok (.iload_n 2, 1) := by decide +kernel
theorem dX0_collectRents_74 : decode cX0_collectRents 74 = .ok (.iload_n 1, 1) := by decide +kernel
theorem dX0_collectRents_75 : decode cX0_collectRents 75 = .ok (.invokevirtual 191, 3) := by decide +kernel
theorem dX0_collectRents_78 : decode cX0_collectRents 78 = .ok (.goto 18, 3) := by decide +kernel
theorem dX0_collectRents_96 : decode cX0_collectRents 96 = .ok (.istore 4, 2) := by decide +kernel
theorem dX0_collectRents_98 : decode cX0_collectRents 98 = .ok (.iload 4, 2) := by decide +kernel
theorem dX0_collectRents_100 : decode cX0_collectRents 100 = .ok (.ifCond .eq 11, 3) := by decide +kernel
theorem dX0_collectRents_111 : decode cX0_collectRents 111 = .ok (.iload_n 3, 1) := by decide +kernel
theorem dX0_collectRents_103 : decode cX0_collectRents 103 = .ok (.aload_n 0, 1) := by decide +kernel
theorem dX0_collectRents_104 : decode cX0_collectRents 104 = .ok (.iload_n 1, 1) := by decide +kernel
theorem dX0_collectRents_105 : decode cX0_collectRents 105 = .ok (.invokevirtual 195, 3) := by decide +kernel
theorem dX0_fairOf_0 : decode cX0_fairOf 0 = .ok (.aload_n 0, 1) := by decide +kernel
theorem dX0_fairOf_1 : decode cX0_fairOf 1 = .ok (.getfield 21, 3) := by decide +kernel
theorem dX0_fairOf_4 : decode cX0_fairOf 4 = .ok (.iload_n 1, 1) := by decide +kernel
theorem dX0_fairOf_5 : decode cX0_fairOf 5 = .ok (.invokevirtual 185, 3) := by decide +kernel
theorem dX0_fairOf_8 : decode cX0_fairOf 8 = .ok (.istore_n 2, 1) := by decide +kernel
theorem dX0_fairOf_9 : decode cX0_fairOf 9 = .ok (.aload_n 0, 1) := by decide +kernel
theorem dX0_fairOf_10 : decode cX0_fairOf 10 = .ok (.getfield 42, 3) := by decide +kernel
theorem dX0_fairOf_13 : decode cX0_fairOf 13 = .ok (.getfield 286, 3) := by decide +kernel
theorem dX0_fairOf_16 : decode cX0_fairOf 16 = .ok (.iconst 1, 1) := by decide +kernel
theorem dX0_fairOf_17 : decode cX0_fairOf 17 = .ok (.isub, 1) := by decide +kernel
theorem dX0_fairOf_18 : decode cX0_fairOf 18 = .ok (.istore_n 3, 1) := by decide +kernel
theorem dX0_fairOf_19 : decode cX0_fairOf 19 = .ok (.iload_n 3, 1) := by decide +kernel
theorem dX0_fairOf_20 : decode cX0_fairOf 20 = .ok (.ifCond .lt 121, 3) := by decide +kernel
theorem dX0_fairOf_23 : decode cX0_fairOf 23 = .ok (.aload_n 0, 1) := by decide +kernel
theorem dX0_fairOf_24 : decode cX0_fairOf 24 = .ok (.getfield 42, 3) := by decide +kernel
theorem dX0_fairOf_27 : decode cX0_fairOf 27 = .ok (.getfield 287, 3) := by decide +kernel
theorem dX0_fairOf_30 : decode cX0_fairOf 30 = .ok (.iload_n 3, 1) := by decide +kernel
theorem dX0_fairOf_31 : decode cX0_fairOf 31 = .ok (.aaload, 1) := by decide +kernel
theorem dX0_fairOf_32 : decode cX0_fairOf 32 = .ok (.astore 4, 2) := by decide +kernel
theorem dX0_fairOf_34 : decode cX0_fairOf 34 = .ok (.aload 4, 2) := by decide +kernel
theorem dX0_fairOf_36 : decode cX0_fairOf 36 = .ok (.ifnonnull 7, 3) := by decide +kernel
theorem dX0_fairOf_39 : decode cX0_fairOf 39 = .ok (.iconst (-1), 1) := by decide +kernel
theorem dX0_fairOf_40 : decode cX0_fairOf 40 = .ok (.goto 10, 3) := by decide +kernel
theorem dX0_fairOf_50 : decode cX0_fairOf 50 = .ok (.istore 5, 2) := by decide +kernel
theorem dX0_fairOf_52 : decode cX0_fairOf 52 = .ok (.iload 5, 2) := by decide +kernel
theorem dX0_fairOf_54 : decode cX0_fairOf 54 = .ok (.ifCond .lt 81, 3) := by decide +kernel
theorem dX0_fairOf_135 : decode cX0_fairOf 135 = .ok (.iinc 3 (-1), 3) := by decide +kernel
theorem dX0_fairOf_138 : decode cX0_fairOf 138 = .ok (.goto (-119), 3) := by decide +kernel
theorem dX0_fairOf_43 : decode cX0_fairOf 43 = .ok (.aload 4, 2) := by decide +kernel
theorem dX0_fairOf_45 : decode cX0_fairOf 45 = .ok (.getfield 291, 3) := by decide +kernel
theorem dX0_fairOf_48 : decode cX0_fairOf 48 = .ok (.iconst 1, 1) := by decide +kernel
theorem dX0_fairOf_49 : decode cX0_fairOf 49 = .ok (.isub, 1) := by decide +kernel
theorem dX0_fairOf_57 : decode cX0_fairOf 57 = .ok (.aload 4, 2) := by decide +kernel
theorem dX0_fairOf_59 : decode cX0_fairOf 59 = .ok (.getfield 296, 3) := by decide +kernel
theorem dX0_fairOf_62 : decode cX0_fairOf 62 = .ok (.iload 5, 2) := by decide +kernel
theorem dX0_fairOf_64 : decode cX0_fairOf 64 = .ok (.iaload, 1) := by decide +kernel
theorem dX0_fairOf_65 : decode cX0_fairOf 65 = .ok (.sipush 260, 3) := by decide +kernel
theorem dX0_fairOf_68 : decode cX0_fairOf 68 = .ok (.if_icmp .ne 61, 3) := by decide +kernel
theorem dX0_fairOf_129 : decode cX0_fairOf 129 = .ok (.iinc 5 (-1), 3) := by decide +kernel
theorem dX0_fairOf_132 : decode cX0_fairOf 132 = .ok (.goto (-80), 3) := by decide +kernel
theorem dX0_fairOf_71 : decode cX0_fairOf 71 = .ok (.aload_n 0, 1) := by decide +kernel
theorem dX0_fairOf_72 : decode cX0_fairOf 72 = .ok (.getfield 42, 3) := by decide +kernel
theorem dX0_fairOf_75 : decode cX0_fairOf 75 = .ok (.iload_n 3, 1) := by decide +kernel
theorem dX0_fairOf_76 : decode cX0_fairOf 76 = .ok (.iload 5, 2) := by decide +kernel
theorem dX0_fairOf_78 : decode cX0_fairOf 78 = .ok (.invokevirtual 299, 3) := by decide +kernel
theorem dX0_fairOf_81 : decode cX0_fairOf 81 = .ok (.ifCond .ne 6, 3) := by decide +kernel
theorem dX0_fairOf_87 : decode cX0_fairOf 87 = .ok (.aload_n 0, 1) := by decide +kernel
theorem dX0_fairOf_88 : decode cX0_fairOf 88 = .ok (.aload 4, 2) := by decide +kernel
theorem dX0_fairOf_90 : decode cX0_fairOf 90 = .ok (.iload 5, 2) := by decide +kernel
theorem dX0_fairOf_92 : decode cX0_fairOf 92 = .ok (.aload_n 0, 1) := by decide +kernel
theorem dX0_fairOf_93 : decode cX0_fairOf 93 = .ok (.getfield 21, 3) := by decide +kernel
theorem dX0_fairOf_96 : decode cX0_fairOf 96 = .ok (.getfield 124, 3) := by decide +kernel
theorem dX0_fairOf_99 : decode cX0_fairOf 99 = .ok (.iload_n 1, 1) := by decide +kernel
theorem dX0_fairOf_100 : decode cX0_fairOf 100 = .ok (.iaload, 1) := by decide +kernel
theorem dX0_fairOf_101 : decode cX0_fairOf 101 = .ok (.iload_n 1, 1) := by decide +kernel
theorem dX0_fairOf_102 : decode cX0_fairOf 102 = .ok (.invokevirtual 302, 3) := by decide +kernel
theorem dX0_fairOf_105 : decode cX0_fairOf 105 = .ok (.lstore 6, 2) := by decide +kernel
theorem dX0_fairOf_107 : decode cX0_fairOf 107 = .ok (.lload 6, 2) := by decide +kernel
theorem dX0_fairOf_109 : decode cX0_fairOf 109 = .ok (.ldc2_w 306, 3) := by decide +kernel
theorem dX0_fairOf_112 : decode cX0_fairOf 112 = .ok (.lcmp, 1) := by decide +kernel
theorem dX0_fairOf_113 : decode cX0_fairOf 113 = .ok (.ifCond .eq 16, 3) := by decide +kernel
theorem dX0_fairOf_116 : decode cX0_fairOf 116 = .ok (.lconst 0, 1) := by decide +kernel
theorem dX0_fairOf_117 : decode cX0_fairOf 117 = .ok (.lload 6, 2) := by decide +kernel
theorem dX0_fairOf_119 : decode cX0_fairOf 119 = .ok (.iload_n 2, 1) := by decide +kernel
theorem dX0_fairOf_120 : decode cX0_fairOf 120 = .ok (.i2l, 1) := by decide +kernel
theorem dX0_fairOf_121 : decode cX0_fairOf 121 = .ok (.invokestatic 308, 3) := by decide +kernel
theorem dX0_fairOf_124 : decode cX0_fairOf 124 = .ok (.invokestatic 311, 3) := by decide +kernel
theorem dX0_fairOf_127 : decode cX0_fairOf 127 = .ok (.l2i, 1) := by decide +kernel
theorem dX0_fairOf_128 : decode cX0_fairOf 128 = .ok (.ireturn, 1) := by decide +kernel
theorem dX0_fairOf_84 : decode cX0_fairOf 84 = .ok (.goto 45, 3) := by decide +kernel
theorem dX0_fairOf_141 : decode cX0_fairOf 141 = .ok (.iload_n 2, 1) := by decide +kernel
theorem dX0_fairOf_142 : decode cX0_fairOf 142 = .ok (.ireturn, 1) := by decide +kernel
theorem dX0_collectRents_108 : decode cX0_collectRents 108 = .ok (.goto 4, 3) := by decide +kernel
theorem dX0_collectRents_112 : decode cX0_collectRents 112 = .ok (.istore 5, 2) := by decide +kernel
theorem dX0_collectRents_114 : decode cX0_collectRents 114 = .ok (.aload_n 0, 1) := by decide +kernel
theorem dX0_collectRents_115 : decode cX0_collectRents 115 = .ok (.iload_n 2, 1) := by decide +kernel
theorem dX0_collectRents_116 : decode cX0_collectRents 116 = .ok (.iload 5, 2) := by decide +kernel
theorem dX0_collectRents_118 : decode cX0_collectRents 118 = .ok (.invokevirtual 198, 3) := by decide +kernel
theorem dX0_pay_0 : decode cX0_pay 0 = .ok (.iload_n 2, 1) := by decide +kernel
theorem dX0_pay_1 : decode cX0_pay 1 = .ok (.aload_n 0, 1) := by decide +kernel
theorem dX0_pay_2 : decode cX0_pay 2 = .ok (.getfield 12, 3) := by decide +kernel
theorem dX0_pay_5 : decode cX0_pay 5 = .ok (.getfield 213, 3) := by decide +kernel
theorem dX0_pay_8 : decode cX0_pay 8 = .ok (.iload_n 1, 1) := by decide +kernel
theorem dX0_pay_9 : decode cX0_pay 9 = .ok (.iaload, 1) := by decide +kernel
theorem dX0_pay_10 : decode cX0_pay 10 = .ok (.isub, 1) := by decide +kernel
theorem dX0_pay_11 : decode cX0_pay 11 = .ok (.istore_n 3, 1) := by decide +kernel
theorem dX0_pay_12 : decode cX0_pay 12 = .ok (.iload_n 3, 1) := by decide +kernel
theorem dX0_pay_13 : decode cX0_pay 13 = .ok (.ifCond .le 70, 3) := by decide +kernel
theorem dX0_pay_16 : decode cX0_pay 16 = .ok (.aload_n 0, 1) := by decide +kernel
theorem dX0_pay_17 : decode cX0_pay 17 = .ok (.getfield 121, 3) := by decide +kernel
theorem dX0_pay_20 : decode cX0_pay 20 = .ok (.ifCond .le 63, 3) := by decide +kernel
theorem dX0_pay_23 : decode cX0_pay 23 = .ok (.iload_n 3, 1) := by decide +kernel
theorem dX0_pay_24 : decode cX0_pay 24 = .ok (.aload_n 0, 1) := by decide +kernel
theorem dX0_pay_25 : decode cX0_pay 25 = .ok (.getfield 121, 3) := by decide +kernel
theorem dX0_pay_28 : decode cX0_pay 28 = .ok (.iadd, 1) := by decide +kernel
theorem dX0_pay_29 : decode cX0_pay 29 = .ok (.iconst 1, 1) := by decide +kernel
theorem dX0_pay_30 : decode cX0_pay 30 = .ok (.isub, 1) := by decide +kernel
theorem dX0_pay_31 : decode cX0_pay 31 = .ok (.aload_n 0, 1) := by decide +kernel
theorem dX0_pay_32 : decode cX0_pay 32 = .ok (.getfield 121, 3) := by decide +kernel
theorem dX0_pay_35 : decode cX0_pay 35 = .ok (.idiv, 1) := by decide +kernel
theorem dX0_pay_36 : decode cX0_pay 36 = .ok (.aload_n 0, 1) := by decide +kernel
theorem dX0_pay_37 : decode cX0_pay 37 = .ok (.getfield 12, 3) := by decide +kernel
theorem dX0_pay_40 : decode cX0_pay 40 = .ok (.getfield 179, 3) := by decide +kernel
theorem dX0_pay_43 : decode cX0_pay 43 = .ok (.iload_n 1, 1) := by decide +kernel
theorem dX0_pay_44 : decode cX0_pay 44 = .ok (.iaload, 1) := by decide +kernel
theorem dX0_pay_45 : decode cX0_pay 45 = .ok (.invokestatic 208, 3) := by decide +kernel
theorem dX0_pay_48 : decode cX0_pay 48 = .ok (.istore 4, 2) := by decide +kernel
theorem dX0_pay_50 : decode cX0_pay 50 = .ok (.aload_n 0, 1) := by decide +kernel
theorem dX0_pay_51 : decode cX0_pay 51 = .ok (.getfield 12, 3) := by decide +kernel
theorem dX0_pay_54 : decode cX0_pay 54 = .ok (.getfield 179, 3) := by decide +kernel
theorem dX0_pay_57 : decode cX0_pay 57 = .ok (.iload_n 1, 1) := by decide +kernel
theorem dX0_pay_58 : decode cX0_pay 58 = .ok (.dup2, 1) := by decide +kernel
theorem dX0_pay_59 : decode cX0_pay 59 = .ok (.iaload, 1) := by decide +kernel
theorem dX0_pay_60 : decode cX0_pay 60 = .ok (.iload 4, 2) := by decide +kernel
theorem dX0_pay_62 : decode cX0_pay 62 = .ok (.isub, 1) := by decide +kernel
theorem dX0_pay_63 : decode cX0_pay 63 = .ok (.iastore, 1) := by decide +kernel
theorem dX0_pay_64 : decode cX0_pay 64 = .ok (.aload_n 0, 1) := by decide +kernel
theorem dX0_pay_65 : decode cX0_pay 65 = .ok (.getfield 12, 3) := by decide +kernel
theorem dX0_pay_68 : decode cX0_pay 68 = .ok (.getfield 213, 3) := by decide +kernel
theorem dX0_pay_71 : decode cX0_pay 71 = .ok (.iload_n 1, 1) := by decide +kernel
theorem dX0_pay_72 : decode cX0_pay 72 = .ok (.dup2, 1) := by decide +kernel
theorem dX0_pay_73 : decode cX0_pay 73 = .ok (.iaload, 1) := by decide +kernel
theorem dX0_pay_74 : decode cX0_pay 74 = .ok (.iload 4, 2) := by decide +kernel
theorem dX0_pay_76 : decode cX0_pay 76 = .ok (.aload_n 0, 1) := by decide +kernel
theorem dX0_pay_77 : decode cX0_pay 77 = .ok (.getfield 121, 3) := by decide +kernel
theorem dX0_pay_80 : decode cX0_pay 80 = .ok (.imul, 1) := by decide +kernel
theorem dX0_pay_81 : decode cX0_pay 81 = .ok (.iadd, 1) := by decide +kernel
theorem dX0_pay_82 : decode cX0_pay 82 = .ok (.iastore, 1) := by decide +kernel
theorem dX0_pay_83 : decode cX0_pay 83 = .ok (.iload_n 2, 1) := by decide +kernel
theorem dX0_pay_84 : decode cX0_pay 84 = .ok (.aload_n 0, 1) := by decide +kernel
theorem dX0_pay_85 : decode cX0_pay 85 = .ok (.getfield 12, 3) := by decide +kernel
theorem dX0_pay_88 : decode cX0_pay 88 = .ok (.getfield 213, 3) := by decide +kernel
theorem dX0_pay_91 : decode cX0_pay 91 = .ok (.iload_n 1, 1) := by decide +kernel
theorem dX0_pay_92 : decode cX0_pay 92 = .ok (.iaload, 1) := by decide +kernel
theorem dX0_pay_93 : decode cX0_pay 93 = .ok (.invokestatic 208, 3) := by decide +kernel
theorem dX0_pay_96 : decode cX0_pay 96 = .ok (.istore 4, 2) := by decide +kernel
theorem dX0_pay_98 : decode cX0_pay 98 = .ok (.aload_n 0, 1) := by decide +kernel
theorem dX0_pay_99 : decode cX0_pay 99 = .ok (.getfield 12, 3) := by decide +kernel
theorem dX0_pay_102 : decode cX0_pay 102 = .ok (.getfield 213, 3) := by decide +kernel
theorem dX0_pay_105 : decode cX0_pay 105 = .ok (.iload_n 1, 1) := by decide +kernel
theorem dX0_pay_106 : decode cX0_pay 106 = .ok (.dup2, 1) := by decide +kernel
theorem dX0_pay_107 : decode cX0_pay 107 = .ok (.iaload, 1) := by decide +kernel
theorem dX0_pay_108 : decode cX0_pay 108 = .ok (.iload 4, 2) := by decide +kernel
theorem dX0_pay_110 : decode cX0_pay 110 = .ok (.isub, 1) := by decide +kernel
theorem dX0_pay_111 : decode cX0_pay 111 = .ok (.iastore, 1) := by decide +kernel
theorem dX0_pay_112 : decode cX0_pay 112 = .ok (.iload 4, 2) := by decide +kernel
theorem dX0_pay_114 : decode cX0_pay 114 = .ok (.ireturn, 1) := by decide +kernel
theorem dX0_collectRents_121 : decode cX0_collectRents 121 = .ok (.istore 6, 2) := by decide +kernel
theorem dX0_collectRents_123 : decode cX0_collectRents 123 = .ok (.aload_n 0, 1) := by decide +kernel
theorem dX0_collectRents_124 : decode cX0_collectRents 124 = .ok (.getfield 21, 3) := by decide +kernel
theorem dX0_collectRents_127 : decode cX0_collectRents 127 = .ok (.getfield 201, 3) := by decide +kernel
theorem dX0_collectRents_130 : decode cX0_collectRents 130 = .ok (.aload_n 0, 1) := by decide +kernel
theorem dX0_collectRents_131 : decode cX0_collectRents 131 = .ok (.getfield 21, 3) := by decide +kernel
theorem dX0_collectRents_134 : decode cX0_collectRents 134 = .ok (.getfield 204, 3) := by decide +kernel
theorem dX0_collectRents_137 : decode cX0_collectRents 137 = .ok (.iload_n 1, 1) := by decide +kernel
theorem dX0_collectRents_138 : decode cX0_collectRents 138 = .ok (.iaload, 1) := by decide +kernel
theorem dX0_collectRents_139 : decode cX0_collectRents 139 = .ok (.dup2, 1) := by decide +kernel
theorem dX0_collectRents_140 : decode cX0_collectRents 140 = .ok (.iaload, 1) := by decide +kernel
theorem dX0_collectRents_141 : decode cX0_collectRents 141 = .ok (.iload 6, 2) := by decide +kernel
theorem dX0_collectRents_143 : decode cX0_collectRents 143 = .ok (.iadd, 1) := by decide +kernel
theorem dX0_collectRents_144 : decode cX0_collectRents 144 = .ok (.iastore, 1) := by decide +kernel
theorem dX0_collectRents_145 : decode cX0_collectRents 145 = .ok (.aload_n 0, 1) := by decide +kernel
theorem dX0_collectRents_146 : decode cX0_collectRents 146 = .ok (.dup, 1) := by decide +kernel
theorem dX0_collectRents_147 : decode cX0_collectRents 147 = .ok (.getfield 103, 3) := by decide +kernel
theorem dX0_collectRents_150 : decode cX0_collectRents 150 = .ok (.iload 6, 2) := by decide +kernel
theorem dX0_collectRents_152 : decode cX0_collectRents 152 = .ok (.i2l, 1) := by decide +kernel
theorem dX0_collectRents_153 : decode cX0_collectRents 153 = .ok (.ladd, 1) := by decide +kernel
theorem dX0_collectRents_154 : decode cX0_collectRents 154 = .ok (.putfield 103, 3) := by decide +kernel
theorem dX0_collectRents_157 : decode cX0_collectRents 157 = .ok (.aload_n 0, 1) := by decide +kernel
theorem dX0_collectRents_158 : decode cX0_collectRents 158 = .ok (.getfield 21, 3) := by decide +kernel
theorem dX0_collectRents_161 : decode cX0_collectRents 161 = .ok (.getfield 188, 3) := by decide +kernel
theorem dX0_collectRents_164 : decode cX0_collectRents 164 = .ok (.iload_n 1, 1) := by decide +kernel
theorem dX0_collectRents_165 : decode cX0_collectRents 165 = .ok (.iload_n 3, 1) := by decide +kernel
theorem dX0_collectRents_166 : decode cX0_collectRents 166 = .ok (.iload 6, 2) := by decide +kernel
theorem dX0_collectRents_168 : decode cX0_collectRents 168 = .ok (.isub, 1) := by decide +kernel
theorem dX0_collectRents_169 : decode cX0_collectRents 169 = .ok (.ldc 207, 2) := by decide +kernel
theorem dX0_collectRents_171 : decode cX0_collectRents 171 = .ok (.invokestatic 208, 3) := by decide +kernel
theorem dX0_collectRents_174 : decode cX0_collectRents 174 = .ok (.iastore, 1) := by decide +kernel
theorem dX0_collectRents_175 : decode cX0_collectRents 175 = .ok (.iinc 1 1, 3) := by decide +kernel
theorem dX0_collectRents_178 : decode cX0_collectRents 178 = .ok (.goto (-176), 3) := by decide +kernel
theorem dX0_collectRents_181 : decode cX0_collectRents 181 = .ok (.return_, 1) := by decide +kernel
theorem dX0_copyFrom_0 : decode cX0_copyFrom 0 = .ok (.aload_n 0, 1) := by decide +kernel
theorem dX0_copyFrom_1 : decode cX0_copyFrom 1 = .ok (.getfield 12, 3) := by decide +kernel
theorem dX0_copyFrom_4 : decode cX0_copyFrom 4 = .ok (.aload_n 1, 1) := by decide +kernel
theorem dX0_copyFrom_5 : decode cX0_copyFrom 5 = .ok (.getfield 12, 3) := by decide +kernel
theorem dX0_copyFrom_8 : decode cX0_copyFrom 8 = .ok (.invokevirtual 74, 3) := by decide +kernel
theorem dX4_copyFrom_0 : decode cX4_copyFrom 0 = .ok (.aload_n 0, 1) := by decide +kernel
theorem dX4_copyFrom_1 : decode cX4_copyFrom 1 = .ok (.aload_n 1, 1) := by decide +kernel
theorem dX4_copyFrom_2 : decode cX4_copyFrom 2 = .ok (.getfield 39, 3) := by decide +kernel
theorem dX4_copyFrom_5 : decode cX4_copyFrom 5 = .ok (.putfield 39, 3) := by decide +kernel
theorem dX4_copyFrom_8 : decode cX4_copyFrom 8 = .ok (.aload_n 1, 1) := by decide +kernel
theorem dX4_copyFrom_9 : decode cX4_copyFrom 9 = .ok (.getfield 9, 3) := by decide +kernel
theorem dX4_copyFrom_12 : decode cX4_copyFrom 12 = .ok (.iconst 0, 1) := by decide +kernel
theorem dX4_copyFrom_13 : decode cX4_copyFrom 13 = .ok (.aload_n 0, 1) := by decide +kernel
theorem dX4_copyFrom_14 : decode cX4_copyFrom 14 = .ok (.getfield 9, 3) := by decide +kernel
theorem dX4_copyFrom_17 : decode cX4_copyFrom 17 = .ok (.iconst 0, 1) := by decide +kernel
theorem dX4_copyFrom_18 : decode cX4_copyFrom 18 = .ok (.bipush 40, 2) := by decide +kernel
theorem dX4_copyFrom_20 : decode cX4_copyFrom 20 = .ok (.invokestatic 61, 3) := by decide +kernel
theorem dX4_copyFrom_23 : decode cX4_copyFrom 23 = .ok (.aload_n 1, 1) := by decide +kernel
theorem dX4_copyFrom_24 : decode cX4_copyFrom 24 = .ok (.getfield 15, 3) := by decide +kernel
theorem dX4_copyFrom_27 : decode cX4_copyFrom 27 = .ok (.iconst 0, 1) := by decide +kernel
theorem dX4_copyFrom_28 : decode cX4_copyFrom 28 = .ok (.aload_n 0, 1) := by decide +kernel
theorem dX4_copyFrom_29 : decode cX4_copyFrom 29 = .ok (.getfield 15, 3) := by decide +kernel
theorem dX4_copyFrom_32 : decode cX4_copyFrom 32 = .ok (.iconst 0, 1) := by decide +kernel
theorem dX4_copyFrom_33 : decode cX4_copyFrom 33 = .ok (.bipush 40, 2) := by decide +kernel
theorem dX4_copyFrom_35 : decode cX4_copyFrom 35 = .ok (.invokestatic 61, 3) := by decide +kernel
theorem dX4_copyFrom_38 : decode cX4_copyFrom 38 = .ok (.aload_n 1, 1) := by decide +kernel
theorem dX4_copyFrom_39 : decode cX4_copyFrom 39 = .ok (.getfield 18, 3) := by decide +kernel
theorem dX4_copyFrom_42 : decode cX4_copyFrom 42 = .ok (.iconst 0, 1) := by decide +kernel
theorem dX4_copyFrom_43 : decode cX4_copyFrom 43 = .ok (.aload_n 0, 1) := by decide +kernel
theorem dX4_copyFrom_44 : decode cX4_copyFrom 44 = .ok (.getfield 18, 3) := by decide +kernel
theorem dX4_copyFrom_47 : decode cX4_copyFrom 47 = .ok (.iconst 0, 1) := by decide +kernel
theorem dX4_copyFrom_48 : decode cX4_copyFrom 48 = .ok (.bipush 40, 2) := by decide +kernel
theorem dX4_copyFrom_50 : decode cX4_copyFrom 50 = .ok (.invokestatic 61, 3) := by decide +kernel
theorem dX4_copyFrom_53 : decode cX4_copyFrom 53 = .ok (.aload_n 1, 1) := by decide +kernel
theorem dX4_copyFrom_54 : decode cX4_copyFrom 54 = .ok (.getfield 21, 3) := by decide +kernel
theorem dX4_copyFrom_57 : decode cX4_copyFrom 57 = .ok (.iconst 0, 1) := by decide +kernel
theorem dX4_copyFrom_58 : decode cX4_copyFrom 58 = .ok (.aload_n 0, 1) := by decide +kernel
theorem dX4_copyFrom_59 : decode cX4_copyFrom 59 = .ok (.getfield 21, 3) := by decide +kernel
theorem dX4_copyFrom_62 : decode cX4_copyFrom 62 = .ok (.iconst 0, 1) := by decide +kernel
theorem dX4_copyFrom_63 : decode cX4_copyFrom 63 = .ok (.bipush 40, 2) := by decide +kernel
theorem dX4_copyFrom_65 : decode cX4_copyFrom 65 = .ok (.invokestatic 61, 3) := by decide +kernel
theorem dX4_copyFrom_68 : decode cX4_copyFrom 68 = .ok (.aload_n 1, 1) := by decide +kernel
theorem dX4_copyFrom_69 : decode cX4_copyFrom 69 = .ok (.getfield 24, 3) := by decide +kernel
theorem dX4_copyFrom_72 : decode cX4_copyFrom 72 = .ok (.iconst 0, 1) := by decide +kernel
theorem dX4_copyFrom_73 : decode cX4_copyFrom 73 = .ok (.aload_n 0, 1) := by decide +kernel
theorem dX4_copyFrom_74 : decode cX4_copyFrom 74 = .ok (.getfield 24, 3) := by decide +kernel
theorem dX4_copyFrom_77 : decode cX4_copyFrom 77 = .ok (.iconst 0, 1) := by decide +kernel
theorem dX4_copyFrom_78 : decode cX4_copyFrom 78 = .ok (.bipush 40, 2) := by decide +kernel
theorem dX4_copyFrom_80 : decode cX4_copyFrom 80 = .ok (.invokestatic 61, 3) := by decide +kernel
theorem dX4_copyFrom_83 : decode cX4_copyFrom 83 = .ok (.aload_n 1, 1) := by decide +kernel
theorem dX4_copyFrom_84 : decode cX4_copyFrom 84 = .ok (.getfield 27, 3) := by decide +kernel
theorem dX4_copyFrom_87 : decode cX4_copyFrom 87 = .ok (.iconst 0, 1) := by decide +kernel
theorem dX4_copyFrom_88 : decode cX4_copyFrom 88 = .ok (.aload_n 0, 1) := by decide +kernel
theorem dX4_copyFrom_89 : decode cX4_copyFrom 89 = .ok (.getfield 27, 3) := by decide +kernel
theorem dX4_copyFrom_92 : decode cX4_copyFrom 92 = .ok (.iconst 0, 1) := by decide +kernel
theorem dX4_copyFrom_93 : decode cX4_copyFrom 93 = .ok (.bipush 40, 2) := by decide +kernel
theorem dX4_copyFrom_95 : decode cX4_copyFrom 95 = .ok (.invokestatic 61, 3) := by decide +kernel
theorem dX4_copyFrom_98 : decode cX4_copyFrom 98 = .ok (.aload_n 1, 1) := by decide +kernel
theorem dX4_copyFrom_99 : decode cX4_copyFrom 99 = .ok (.getfield 30, 3) := by decide +kernel
theorem dX4_copyFrom_102 : decode cX4_copyFrom 102 = .ok (.iconst 0, 1) := by decide +kernel
theorem dX4_copyFrom_103 : decode cX4_copyFrom 103 = .ok (.aload_n 0, 1) := by decide +kernel
theorem dX4_copyFrom_104 : decode cX4_copyFrom 104 = .ok (.getfield 30, 3) := by decide +kernel
theorem dX4_copyFrom_107 : decode cX4_copyFrom 107 = .ok (.iconst 0, 1) := by decide +kernel
theorem dX4_copyFrom_108 : decode cX4_copyFrom 108 = .ok (.bipush 40, 2) := by decide +kernel
theorem dX4_copyFrom_110 : decode cX4_copyFrom 110 = .ok (.invokestatic 61, 3) := by decide +kernel
theorem dX4_copyFrom_113 : decode cX4_copyFrom 113 = .ok (.aload_n 1, 1) := by decide +kernel
theorem dX4_copyFrom_114 : decode cX4_copyFrom 114 = .ok (.getfield 33, 3) := by decide +kernel
theorem dX4_copyFrom_117 : decode cX4_copyFrom 117 = .ok (.iconst 0, 1) := by decide +kernel
theorem dX4_copyFrom_118 : decode cX4_copyFrom 118 = .ok (.aload_n 0, 1) := by decide +kernel
theorem dX4_copyFrom_119 : decode cX4_copyFrom 119 = .ok (.getfield 33, 3) := by decide +kernel
theorem dX4_copyFrom_122 : decode cX4_copyFrom 122 = .ok (.iconst 0, 1) := by decide +kernel
theorem dX4_copyFrom_123 : decode cX4_copyFrom 123 = .ok (.bipush 40, 2) := by decide +kernel
theorem dX4_copyFrom_125 : decode cX4_copyFrom 125 = .ok (.invokestatic 61, 3) := by decide +kernel
theorem dX4_copyFrom_128 : decode cX4_copyFrom 128 = .ok (.return_, 1) := by decide +kernel
theorem dX0_copyFrom_11 : decode cX0_copyFrom 11 = .ok (.aload_n 0, 1) := by decide +kernel
theorem dX0_copyFrom_12 : decode cX0_copyFrom 12 = .ok (.getfield 21, 3) := by decide +kernel
theorem dX0_copyFrom_15 : decode cX0_copyFrom 15 = .ok (.aload_n 1, 1) := by decide +kernel
theorem dX0_copyFrom_16 : decode cX0_copyFrom 16 = .ok (.getfield 21, 3) := by decide +kernel
theorem dX0_copyFrom_19 : decode cX0_copyFrom 19 = .ok (.invokevirtual 78, 3) := by decide +kernel
theorem dX1_copyFrom_0 : decode cX1_copyFrom 0 = .ok (.aload_n 0, 1) := by decide +kernel
theorem dX1_copyFrom_1 : decode cX1_copyFrom 1 = .ok (.aload_n 1, 1) := by decide +kernel
theorem dX1_copyFrom_2 : decode cX1_copyFrom 2 = .ok (.getfield 46, 3) := by decide +kernel
theorem dX1_copyFrom_5 : decode cX1_copyFrom 5 = .ok (.putfield 46, 3) := by decide +kernel
theorem dX1_copyFrom_8 : decode cX1_copyFrom 8 = .ok (.aload_n 1, 1) := by decide +kernel
theorem dX1_copyFrom_9 : decode cX1_copyFrom 9 = .ok (.getfield 9, 3) := by decide +kernel
theorem dX1_copyFrom_12 : decode cX1_copyFrom 12 = .ok (.iconst 0, 1) := by decide +kernel
theorem dX1_copyFrom_13 : decode cX1_copyFrom 13 = .ok (.aload_n 0, 1) := by decide +kernel
theorem dX1_copyFrom_14 : decode cX1_copyFrom 14 = .ok (.getfield 9, 3) := by decide +kernel
theorem dX1_copyFrom_17 : decode cX1_copyFrom 17 = .ok (.iconst 0, 1) := by decide +kernel
theorem dX1_copyFrom_18 : decode cX1_copyFrom 18 = .ok (.bipush 40, 2) := by decide +kernel
theorem dX1_copyFrom_20 : decode cX1_copyFrom 20 = .ok (.invokestatic 72, 3) := by decide +kernel
theorem dX1_copyFrom_23 : decode cX1_copyFrom 23 = .ok (.aload_n 1, 1) := by decide +kernel
theorem dX1_copyFrom_24 : decode cX1_copyFrom 24 = .ok (.getfield 15, 3) := by decide +kernel
theorem dX1_copyFrom_27 : decode cX1_copyFrom 27 = .ok (.iconst 0, 1) := by decide +kernel
theorem dX1_copyFrom_28 : decode cX1_copyFrom 28 = .ok (.aload_n 0, 1) := by decide +kernel
theorem dX1_copyFrom_29 : decode cX1_copyFrom 29 = .ok (.getfield 15, 3) := by decide +kernel
theorem dX1_copyFrom_32 : decode cX1_copyFrom 32 = .ok (.iconst 0, 1) := by decide +kernel
theorem dX1_copyFrom_33 : decode cX1_copyFrom 33 = .ok (.bipush 40, 2) := by decide +kernel
theorem dX1_copyFrom_35 : decode cX1_copyFrom 35 = .ok (.invokestatic 72, 3) := by decide +kernel
theorem dX1_copyFrom_38 : decode cX1_copyFrom 38 = .ok (.aload_n 1, 1) := by decide +kernel
theorem dX1_copyFrom_39 : decode cX1_copyFrom 39 = .ok (.getfield 18, 3) := by decide +kernel
theorem dX1_copyFrom_42 : decode cX1_copyFrom 42 = .ok (.iconst 0, 1) := by decide +kernel
theorem dX1_copyFrom_43 : decode cX1_copyFrom 43 = .ok (.aload_n 0, 1) := by decide +kernel
theorem dX1_copyFrom_44 : decode cX1_copyFrom 44 = .ok (.getfield 18, 3) := by decide +kernel
theorem dX1_copyFrom_47 : decode cX1_copyFrom 47 = .ok (.iconst 0, 1) := by decide +kernel
theorem dX1_copyFrom_48 : decode cX1_copyFrom 48 = .ok (.bipush 40, 2) := by decide +kernel
theorem dX1_copyFrom_50 : decode cX1_copyFrom 50 = .ok (.invokestatic 72, 3) := by decide +kernel
theorem dX1_copyFrom_53 : decode cX1_copyFrom 53 = .ok (.aload_n 1, 1) := by decide +kernel
theorem dX1_copyFrom_54 : decode cX1_copyFrom 54 = .ok (.getfield 21, 3) := by decide +kernel
theorem dX1_copyFrom_57 : decode cX1_copyFrom 57 = .ok (.iconst 0, 1) := by decide +kernel
theorem dX1_copyFrom_58 : decode cX1_copyFrom 58 = .ok (.aload_n 0, 1) := by decide +kernel
theorem dX1_copyFrom_59 : decode cX1_copyFrom 59 = .ok (.getfield 21, 3) := by decide +kernel
theorem dX1_copyFrom_62 : decode cX1_copyFrom 62 = .ok (.iconst 0, 1) := by decide +kernel
theorem dX1_copyFrom_63 : decode cX1_copyFrom 63 = .ok (.bipush 40, 2) := by decide +kernel
theorem dX1_copyFrom_65 : decode cX1_copyFrom 65 = .ok (.invokestatic 72, 3) := by decide +kernel
theorem dX1_copyFrom_68 : decode cX1_copyFrom 68 = .ok (.aload_n 1, 1) := by decide +kernel
theorem dX1_copyFrom_69 : decode cX1_copyFrom 69 = .ok (.getfield 24, 3) := by decide +kernel
theorem dX1_copyFrom_72 : decode cX1_copyFrom 72 = .ok (.iconst 0, 1) := by decide +kernel
theorem dX1_copyFrom_73 : decode cX1_copyFrom 73 = .ok (.aload_n 0, 1) := by decide +kernel
theorem dX1_copyFrom_74 : decode cX1_copyFrom 74 = .ok (.getfield 24, 3) := by decide +kernel
theorem dX1_copyFrom_77 : decode cX1_copyFrom 77 = .ok (.iconst 0, 1) := by decide +kernel
theorem dX1_copyFrom_78 : decode cX1_copyFrom 78 = .ok (.bipush 40, 2) := by decide +kernel
theorem dX1_copyFrom_80 : decode cX1_copyFrom 80 = .ok (.invokestatic 72, 3) := by decide +kernel
theorem dX1_copyFrom_83 : decode cX1_copyFrom 83 = .ok (.aload_n 1, 1) := by decide +kernel
theorem dX1_copyFrom_84 : decode cX1_copyFrom 84 = .ok (.getfield 27, 3) := by decide +kernel
theorem dX1_copyFrom_87 : decode cX1_copyFrom 87 = .ok (.iconst 0, 1) := by decide +kernel
theorem dX1_copyFrom_88 : decode cX1_copyFrom 88 = .ok (.aload_n 0, 1) := by decide +kernel
theorem dX1_copyFrom_89 : decode cX1_copyFrom 89 = .ok (.getfield 27, 3) := by decide +kernel
theorem dX1_copyFrom_92 : decode cX1_copyFrom 92 = .ok (.iconst 0, 1) := by decide +kernel
theorem dX1_copyFrom_93 : decode cX1_copyFrom 93 = .ok (.bipush 40, 2) := by decide +kernel
theorem dX1_copyFrom_95 : decode cX1_copyFrom 95 = .ok (.invokestatic 72, 3) := by decide +kernel
theorem dX1_copyFrom_98 : decode cX1_copyFrom 98 = .ok (.aload_n 1, 1) := by decide +kernel
theorem dX1_copyFrom_99 : decode cX1_copyFrom 99 = .ok (.getfield 30, 3) := by decide +kernel
theorem dX1_copyFrom_102 : decode cX1_copyFrom 102 = .ok (.iconst 0, 1) := by decide +kernel
theorem dX1_copyFrom_103 : decode cX1_copyFrom 103 = .ok (.aload_n 0, 1) := by decide +kernel
theorem dX1_copyFrom_104 : decode cX1_copyFrom 104 = .ok (.getfield 30, 3) := by decide +kernel
theorem dX1_copyFrom_107 : decode cX1_copyFrom 107 = .ok (.iconst 0, 1) := by decide +kernel
theorem dX1_copyFrom_108 : decode cX1_copyFrom 108 = .ok (.bipush 40, 2) := by decide +kernel
theorem dX1_copyFrom_110 : decode cX1_copyFrom 110 = .ok (.invokestatic 72, 3) := by decide +kernel
theorem dX1_copyFrom_113 : decode cX1_copyFrom 113 = .ok (.aload_n 0, 1) := by decide +kernel
theorem dX1_copyFrom_114 : decode cX1_copyFrom 114 = .ok (.aload_n 1, 1) := by decide +kernel
theorem dX1_copyFrom_115 : decode cX1_copyFrom 115 = .ok (.getfield 49, 3) := by decide +kernel
theorem dX1_copyFrom_118 : decode cX1_copyFrom 118 = .ok (.putfield 49, 3) := by decide +kernel
theorem dX1_copyFrom_121 : decode cX1_copyFrom 121 = .ok (.aload_n 1, 1) := by decide +kernel
theorem dX1_copyFrom_122 : decode cX1_copyFrom 122 = .ok (.getfield 33, 3) := by decide +kernel
theorem dX1_copyFrom_125 : decode cX1_copyFrom 125 = .ok (.iconst 0, 1) := by decide +kernel
theorem dX1_copyFrom_126 : decode cX1_copyFrom 126 = .ok (.aload_n 0, 1) := by decide +kernel
theorem dX1_copyFrom_127 : decode cX1_copyFrom 127 = .ok (.getfield 33, 3) := by decide +kernel
theorem dX1_copyFrom_130 : decode cX1_copyFrom 130 = .ok (.iconst 0, 1) := by decide +kernel
theorem dX1_copyFrom_131 : decode cX1_copyFrom 131 = .ok (.bipush 8, 2) := by decide +kernel
theorem dX1_copyFrom_133 : decode cX1_copyFrom 133 = .ok (.invokestatic 72, 3) := by decide +kernel
theorem dX1_copyFrom_136 : decode cX1_copyFrom 136 = .ok (.aload_n 1, 1) := by decide +kernel
theorem dX1_copyFrom_137 : decode cX1_copyFrom 137 = .ok (.getfield 36, 3) := by decide +kernel
theorem dX1_copyFrom_140 : decode cX1_copyFrom 140 = .ok (.iconst 0, 1) := by decide +kernel
theorem dX1_copyFrom_141 : decode cX1_copyFrom 141 = .ok (.aload_n 0, 1) := by decide +kernel
theorem dX1_copyFrom_142 : decode cX1_copyFrom 142 = .ok (.getfield 36, 3) := by decide +kernel
theorem dX1_copyFrom_145 : decode cX1_copyFrom 145 = .ok (.iconst 0, 1) := by decide +kernel
theorem dX1_copyFrom_146 : decode cX1_copyFrom 146 = .ok (.bipush 8, 2) := by decide +kernel
theorem dX1_copyFrom_148 : decode cX1_copyFrom 148 = .ok (.invokestatic 72, 3) := by decide +kernel
theorem dX1_copyFrom_151 : decode cX1_copyFrom 151 = .ok (.aload_n 1, 1) := by decide +kernel
theorem dX1_copyFrom_152 : decode cX1_copyFrom 152 = .ok (.getfield 39, 3) := by decide +kernel
theorem dX1_copyFrom_155 : decode cX1_copyFrom 155 = .ok (.iconst 0, 1) := by decide +kernel
theorem dX1_copyFrom_156 : decode cX1_copyFrom 156 = .ok (.aload_n 0, 1) := by decide +kernel
theorem dX1_copyFrom_157 : decode cX1_copyFrom 157 = .ok (.getfield 39, 3) := by decide +kernel
theorem dX1_copyFrom_160 : decode cX1_copyFrom 160 = .ok (.iconst 0, 1) := by decide +kernel
theorem dX1_copyFrom_161 : decode cX1_copyFrom 161 = .ok (.bipush 8, 2) := by decide +kernel
theorem dX1_copyFrom_163 : decode cX1_copyFrom 163 = .ok (.invokestatic 72, 3) := by decide +kernel
theorem dX1_copyFrom_166 : decode cX1_copyFrom 166 = .ok (.aload_n 0, 1) := by decide +kernel
theorem dX1_copyFrom_167 : decode cX1_copyFrom 167 = .ok (.aload_n 1, 1) := by decide +kernel
theorem dX1_copyFrom_168 : decode cX1_copyFrom 168 = .ok (.getfield 42, 3) := by decide +kernel
theorem dX1_copyFrom_171 : decode cX1_copyFrom 171 = .ok (.putfield 42, 3) := by decide +kernel
theorem dX1_copyFrom_174 : decode cX1_copyFrom 174 = .ok (.aload_n 0, 1) := by decide +kernel
theorem dX1_copyFrom_175 : decode cX1_copyFrom 175 = .ok (.aload_n 1, 1) := by decide +kernel
theorem dX1_copyFrom_176 : decode cX1_copyFrom 176 = .ok (.getfield 62, 3) := by decide +kernel
theorem dX1_copyFrom_179 : decode cX1_copyFrom 179 = .ok (.putfield 62, 3) := by decide +kernel
theorem dX1_copyFrom_182 : decode cX1_copyFrom 182 = .ok (.aload_n 0, 1) := by decide +kernel
theorem dX1_copyFrom_183 : decode cX1_copyFrom 183 = .ok (.aload_n 1, 1) := by decide +kernel
theorem dX1_copyFrom_184 : decode cX1_copyFrom 184 = .ok (.getfield 69, 3) := by decide +kernel
theorem dX1_copyFrom_187 : decode cX1_copyFrom 187 = .ok (.putfield 69, 3) := by decide +kernel
theorem dX1_copyFrom_190 : decode cX1_copyFrom 190 = .ok (.return_, 1) := by decide +kernel
theorem dX0_copyFrom_22 : decode cX0_copyFrom 22 = .ok (.aload_n 0, 1) := by decide +kernel
theorem dX0_copyFrom_23 : decode cX0_copyFrom 23 = .ok (.getfield 28, 3) := by decide +kernel
theorem dX0_copyFrom_26 : decode cX0_copyFrom 26 = .ok (.aload_n 1, 1) := by decide +kernel
theorem dX0_copyFrom_27 : decode cX0_copyFrom 27 = .ok (.getfield 28, 3) := by decide +kernel
theorem dX0_copyFrom_30 : decode cX0_copyFrom 30 = .ok (.invokevirtual 81, 3) := by decide +kernel
theorem dX10_copyFrom_0 : decode cX10_copyFrom 0 = .ok (.aload_n 0, 1) := by decide +kernel
theorem dX10_copyFrom_1 : decode cX10_copyFrom 1 = .ok (.aload_n 1, 1) := by decide +kernel
theorem dX10_copyFrom_2 : decode cX10_copyFrom 2 = .ok (.getfield 39, 3) := by decide +kernel
theorem dX10_copyFrom_5 : decode cX10_copyFrom 5 = .ok (.putfield 39, 3) := by decide +kernel
theorem dX10_copyFrom_8 : decode cX10_copyFrom 8 = .ok (.aload_n 1, 1) := by decide +kernel
theorem dX10_copyFrom_9 : decode cX10_copyFrom 9 = .ok (.getfield 9, 3) := by decide +kernel
theorem dX10_copyFrom_12 : decode cX10_copyFrom 12 = .ok (.iconst 0, 1) := by decide +kernel
theorem dX10_copyFrom_13 : decode cX10_copyFrom 13 = .ok (.aload_n 0, 1) := by decide +kernel
theorem dX10_copyFrom_14 : decode cX10_copyFrom 14 = .ok (.getfield 9, 3) := by decide +kernel
theorem dX10_copyFrom_17 : decode cX10_copyFrom 17 = .ok (.iconst 0, 1) := by decide +kernel
theorem dX10_copyFrom_18 : decode cX10_copyFrom 18 = .ok (.bipush 60, 2) := by decide +kernel
theorem dX10_copyFrom_20 : decode cX10_copyFrom 20 = .ok (.invokestatic 50, 3) := by decide +kernel
theorem dX10_copyFrom_23 : decode cX10_copyFrom 23 = .ok (.aload_n 1, 1) := by decide +kernel
theorem dX10_copyFrom_24 : decode cX10_copyFrom 24 = .ok (.getfield 15, 3) := by decide +kernel
theorem dX10_copyFrom_27 : decode cX10_copyFrom 27 = .ok (.iconst 0, 1) := by decide +kernel
theorem dX10_copyFrom_28 : decode cX10_copyFrom 28 = .ok (.aload_n 0, 1) := by decide +kernel
theorem dX10_copyFrom_29 : decode cX10_copyFrom 29 = .ok (.getfield 15, 3) := by decide +kernel
theorem dX10_copyFrom_32 : decode cX10_copyFrom 32 = .ok (.iconst 0, 1) := by decide +kernel
theorem dX10_copyFrom_33 : decode cX10_copyFrom 33 = .ok (.bipush 60, 2) := by decide +kernel
theorem dX10_copyFrom_35 : decode cX10_copyFrom 35 = .ok (.invokestatic 50, 3) := by decide +kernel
theorem dX10_copyFrom_38 : decode cX10_copyFrom 38 = .ok (.aload_n 1, 1) := by decide +kernel
theorem dX10_copyFrom_39 : decode cX10_copyFrom 39 = .ok (.getfield 18, 3) := by decide +kernel
theorem dX10_copyFrom_42 : decode cX10_copyFrom 42 = .ok (.iconst 0, 1) := by decide +kernel
theorem dX10_copyFrom_43 : decode cX10_copyFrom 43 = .ok (.aload_n 0, 1) := by decide +kernel
theorem dX10_copyFrom_44 : decode cX10_copyFrom 44 = .ok (.getfield 18, 3) := by decide +kernel
theorem dX10_copyFrom_47 : decode cX10_copyFrom 47 = .ok (.iconst 0, 1) := by decide +kernel
theorem dX10_copyFrom_48 : decode cX10_copyFrom 48 = .ok (.bipush 60, 2) := by decide +kernel
theorem dX10_copyFrom_50 : decode cX10_copyFrom 50 = .ok (.invokestatic 50, 3) := by decide +kernel
theorem dX10_copyFrom_53 : decode cX10_copyFrom 53 = .ok (.aload_n 1, 1) := by decide +kernel
theorem dX10_copyFrom_54 : decode cX10_copyFrom 54 = .ok (.getfield 21, 3) := by decide +kernel
theorem dX10_copyFrom_57 : decode cX10_copyFrom 57 = .ok (.iconst 0, 1) := by decide +kernel
theorem dX10_copyFrom_58 : decode cX10_copyFrom 58 = .ok (.aload_n 0, 1) := by decide +kernel
theorem dX10_copyFrom_59 : decode cX10_copyFrom 59 = .ok (.getfield 21, 3) := by decide +kernel
theorem dX10_copyFrom_62 : decode cX10_copyFrom 62 = .ok (.iconst 0, 1) := by decide +kernel
theorem dX10_copyFrom_63 : decode cX10_copyFrom 63 = .ok (.bipush 60, 2) := by decide +kernel
theorem dX10_copyFrom_65 : decode cX10_copyFrom 65 = .ok (.invokestatic 50, 3) := by decide +kernel
theorem dX10_copyFrom_68 : decode cX10_copyFrom 68 = .ok (.aload_n 1, 1) := by decide +kernel
theorem dX10_copyFrom_69 : decode cX10_copyFrom 69 = .ok (.getfield 24, 3) := by decide +kernel
theorem dX10_copyFrom_72 : decode cX10_copyFrom 72 = .ok (.iconst 0, 1) := by decide +kernel
theorem dX10_copyFrom_73 : decode cX10_copyFrom 73 = .ok (.aload_n 0, 1) := by decide +kernel
theorem dX10_copyFrom_74 : decode cX10_copyFrom 74 = .ok (.getfield 24, 3) := by decide +kernel
theorem dX10_copyFrom_77 : decode cX10_copyFrom 77 = .ok (.iconst 0, 1) := by decide +kernel
theorem dX10_copyFrom_78 : decode cX10_copyFrom 78 = .ok (.bipush 60, 2) := by decide +kernel
theorem dX10_copyFrom_80 : decode cX10_copyFrom 80 = .ok (.invokestatic 50, 3) := by decide +kernel
theorem dX10_copyFrom_83 : decode cX10_copyFrom 83 = .ok (.aload_n 1, 1) := by decide +kernel
theorem dX10_copyFrom_84 : decode cX10_copyFrom 84 = .ok (.getfield 27, 3) := by decide +kernel
theorem dX10_copyFrom_87 : decode cX10_copyFrom 87 = .ok (.iconst 0, 1) := by decide +kernel
theorem dX10_copyFrom_88 : decode cX10_copyFrom 88 = .ok (.aload_n 0, 1) := by decide +kernel
theorem dX10_copyFrom_89 : decode cX10_copyFrom 89 = .ok (.getfield 27, 3) := by decide +kernel
theorem dX10_copyFrom_92 : decode cX10_copyFrom 92 = .ok (.iconst 0, 1) := by decide +kernel
theorem dX10_copyFrom_93 : decode cX10_copyFrom 93 = .ok (.bipush 60, 2) := by decide +kernel
theorem dX10_copyFrom_95 : decode cX10_copyFrom 95 = .ok (.invokestatic 50, 3) := by decide +kernel
theorem dX10_copyFrom_98 : decode cX10_copyFrom 98 = .ok (.aload_n 0, 1) := by decide +kernel
theorem dX10_copyFrom_99 : decode cX10_copyFrom 99 = .ok (.aload_n 1, 1) := by decide +kernel
theorem dX10_copyFrom_100 : decode cX10_copyFrom 100 = .ok (.getfield 43, 3) := by decide +kernel
theorem dX10_copyFrom_103 : decode cX10_copyFrom 103 = .ok (.putfield 43, 3) := by decide +kernel
theorem dX10_copyFrom_106 : decode cX10_copyFrom 106 = .ok (.aload_n 1, 1) := by decide +kernel
theorem dX10_copyFrom_107 : decode cX10_copyFrom 107 = .ok (.getfield 30, 3) := by decide +kernel
theorem dX10_copyFrom_110 : decode cX10_copyFrom 110 = .ok (.iconst 0, 1) := by decide +kernel
theorem dX10_copyFrom_111 : decode cX10_copyFrom 111 = .ok (.aload_n 0, 1) := by decide +kernel
theorem dX10_copyFrom_112 : decode cX10_copyFrom 112 = .ok (.getfield 30, 3) := by decide +kernel
theorem dX10_copyFrom_115 : decode cX10_copyFrom 115 = .ok (.iconst 0, 1) := by decide +kernel
theorem dX10_copyFrom_116 : decode cX10_copyFrom 116 = .ok (.bipush 40, 2) := by decide +kernel
theorem dX10_copyFrom_118 : decode cX10_copyFrom 118 = .ok (.invokestatic 50, 3) := by decide +kernel
theorem dX10_copyFrom_121 : decode cX10_copyFrom 121 = .ok (.aload_n 1, 1) := by decide +kernel
theorem dX10_copyFrom_122 : decode cX10_copyFrom 122 = .ok (.getfield 33, 3) := by decide +kernel
theorem dX10_copyFrom_125 : decode cX10_copyFrom 125 = .ok (.iconst 0, 1) := by decide +kernel
theorem dX10_copyFrom_126 : decode cX10_copyFrom 126 = .ok (.aload_n 0, 1) := by decide +kernel
theorem dX10_copyFrom_127 : decode cX10_copyFrom 127 = .ok (.getfield 33, 3) := by decide +kernel
theorem dX10_copyFrom_130 : decode cX10_copyFrom 130 = .ok (.iconst 0, 1) := by decide +kernel
theorem dX10_copyFrom_131 : decode cX10_copyFrom 131 = .ok (.bipush 40, 2) := by decide +kernel
theorem dX10_copyFrom_133 : decode cX10_copyFrom 133 = .ok (.invokestatic 50, 3) := by decide +kernel
theorem dX10_copyFrom_136 : decode cX10_copyFrom 136 = .ok (.aload_n 1, 1) := by decide +kernel
theorem dX10_copyFrom_137 : decode cX10_copyFrom 137 = .ok (.getfield 36, 3) := by decide +kernel
theorem dX10_copyFrom_140 : decode cX10_copyFrom 140 = .ok (.iconst 0, 1) := by decide +kernel
theorem dX10_copyFrom_141 : decode cX10_copyFrom 141 = .ok (.aload_n 0, 1) := by decide +kernel
theorem dX10_copyFrom_142 : decode cX10_copyFrom 142 = .ok (.getfield 36, 3) := by decide +kernel
theorem dX10_copyFrom_145 : decode cX10_copyFrom 145 = .ok (.iconst 0, 1) := by decide +kernel
theorem dX10_copyFrom_146 : decode cX10_copyFrom 146 = .ok (.bipush 40, 2) := by decide +kernel
theorem dX10_copyFrom_148 : decode cX10_copyFrom 148 = .ok (.invokestatic 50, 3) := by decide +kernel
theorem dX10_copyFrom_151 : decode cX10_copyFrom 151 = .ok (.return_, 1) := by decide +kernel
theorem dX0_copyFrom_33 : decode cX0_copyFrom 33 = .ok (.aload_n 0, 1) := by decide +kernel
theorem dX0_copyFrom_34 : decode cX0_copyFrom 34 = .ok (.getfield 35, 3) := by decide +kernel
theorem dX0_copyFrom_37 : decode cX0_copyFrom 37 = .ok (.aload_n 1, 1) := by decide +kernel
theorem dX0_copyFrom_38 : decode cX0_copyFrom 38 = .ok (.getfield 35, 3) := by decide +kernel
theorem dX0_copyFrom_41 : decode cX0_copyFrom 41 = .ok (.invokevirtual 84, 3) := by decide +kernel
theorem dX7_copyFrom_0 : decode cX7_copyFrom 0 = .ok (.aload_n 1, 1) := by decide +kernel
theorem dX7_copyFrom_1 : decode cX7_copyFrom 1 = .ok (.getfield 9, 3) := by decide +kernel
theorem dX7_copyFrom_4 : decode cX7_copyFrom 4 = .ok (.iconst 0, 1) := by decide +kernel
theorem dX7_copyFrom_5 : decode cX7_copyFrom 5 = .ok (.aload_n 0, 1) := by decide +kernel
theorem dX7_copyFrom_6 : decode cX7_copyFrom 6 = .ok (.getfield 9, 3) := by decide +kernel
theorem dX7_copyFrom_9 : decode cX7_copyFrom 9 = .ok (.iconst 0, 1) := by decide +kernel
theorem dX7_copyFrom_10 : decode cX7_copyFrom 10 = .ok (.sipush 400, 3) := by decide +kernel
theorem dX7_copyFrom_13 : decode cX7_copyFrom 13 = .ok (.invokestatic 40, 3) := by decide +kernel
theorem dX7_copyFrom_16 : decode cX7_copyFrom 16 = .ok (.iconst 0, 1) := by decide +kernel
theorem dX7_copyFrom_17 : decode cX7_copyFrom 17 = .ok (.istore_n 2, 1) := by decide +kernel
theorem dX7_copyFrom_18 : decode cX7_copyFrom 18 = .ok (.iload_n 2, 1) := by decide +kernel
theorem dX7_copyFrom_19 : decode cX7_copyFrom 19 = .ok (.sipush 400, 3) := by decide +kernel
theorem dX7_copyFrom_22 : decode cX7_copyFrom 22 = .ok (.if_icmp .ge 21, 3) := by decide +kernel
theorem dX7_copyFrom_25 : decode cX7_copyFrom 25 = .ok (.aload_n 0, 1) := by decide +kernel
theorem dX7_copyFrom_26 : decode cX7_copyFrom 26 = .ok (.getfield 17, 3) := by decide +kernel
theorem dX7_copyFrom_29 : decode cX7_copyFrom 29 = .ok (.iload_n 2, 1) := by decide +kernel
theorem dX7_copyFrom_30 : decode cX7_copyFrom 30 = .ok (.aload_n 1, 1) := by decide +kernel
theorem dX7_copyFrom_31 : decode cX7_copyFrom 31 = .ok (.getfield 17, 3) := by decide +kernel
theorem dX7_copyFrom_34 : decode cX7_copyFrom 34 = .ok (.iload_n 2, 1) := by decide +kernel
theorem dX7_copyFrom_35 : decode cX7_copyFrom 35 = .ok (.aaload, 1) := by decide +kernel
theorem dX7_copyFrom_36 : decode cX7_copyFrom 36 = .ok (.aastore, 1) := by decide +kernel
theorem dX0_drawOf_0 : decode cX0_drawOf 0 = .ok (.lconst 0, 1) := by decide +kernel
theorem dX0_drawOf_1 : decode cX0_drawOf 1 = .ok (.lstore_n 2, 1) := by decide +kernel
theorem dX0_drawOf_2 : decode cX0_drawOf 2 = .ok (.iconst 0, 1) := by decide +kernel
theorem dX0_drawOf_3 : decode cX0_drawOf 3 = .ok (.istore 4, 2) := by decide +kernel
theorem dX0_drawOf_5 : decode cX0_drawOf 5 = .ok (.iload 4, 2) := by decide +kernel
theorem dX0_drawOf_7 : decode cX0_drawOf 7 = .ok (.aload_n 0, 1) := by decide +kernel
theorem dX0_drawOf_8 : decode cX0_drawOf 8 = .ok (.getfield 42, 3) := by decide +kernel
theorem dX0_drawOf_11 : decode cX0_drawOf 11 = .ok (.getfield 286, 3) := by decide +kernel
theorem dX0_drawOf_14 : decode cX0_drawOf 14 = .ok (.if_icmp .ge 103, 3) := by decide +kernel
theorem dX0_drawOf_17 : decode cX0_drawOf 17 = .ok (.aload_n 0, 1) := by decide +kernel
theorem dX0_drawOf_18 : decode cX0_drawOf 18 = .ok (.getfield 42, 3) := by decide +kernel
theorem dX0_drawOf_21 : decode cX0_drawOf 21 = .ok (.getfield 287, 3) := by decide +kernel
theorem dX0_drawOf_24 : decode cX0_drawOf 24 = .ok (.iload 4, 2) := by decide +kernel
theorem dX0_drawOf_26 : decode cX0_drawOf 26 = .ok (.aaload, 1) := by decide +kernel
theorem dX0_drawOf_27 : decode cX0_drawOf 27 = .ok (.astore 5, 2) := by decide +kernel
theorem dX0_drawOf_29 : decode cX0_drawOf 29 = .ok (.iconst 0, 1) := by decide +kernel
theorem dX0_drawOf_30 : decode cX0_drawOf 30 = .ok (.istore 6, 2) := by decide +kernel
theorem dX0_drawOf_32 : decode cX0_drawOf 32 = .ok (.aload 5, 2) := by decide +kernel
theorem dX0_drawOf_34 : decode cX0_drawOf 34 = .ok (.ifnull 77, 3) := by decide +kernel
theorem dX0_drawOf_111 : decode cX0_drawOf 111 = .ok (.iinc 4 1, 3) := by decide +kernel
theorem dX0_drawOf_114 : decode cX0_drawOf 114 = .ok (.goto (-109), 3) := by decide +kernel
theorem dX0_drawOf_37 : decode cX0_drawOf 37 = .ok (.iload 6, 2) := by decide +kernel
theorem dX0_drawOf_39 : decode cX0_drawOf 39 = .ok (.aload 5, 2) := by decide +kernel
theorem dX0_drawOf_41 : decode cX0_drawOf 41 = .ok (.getfield 291, 3) := by decide +kernel
theorem dX0_drawOf_44 : decode cX0_drawOf 44 = .ok (.if_icmp .ge 67, 3) := by decide +kernel
theorem dX0_drawOf_47 : decode cX0_drawOf 47 = .ok (.aload 5, 2) := by decide +kernel
theorem dX0_drawOf_49 : decode cX0_drawOf 49 = .ok (.getfield 296, 3) := by decide +kernel
theorem dX0_drawOf_52 : decode cX0_drawOf 52 = .ok (.iload 6, 2) := by decide +kernel
theorem dX0_drawOf_54 : decode cX0_drawOf 54 = .ok (.iaload, 1) := by decide +kernel
theorem dX0_drawOf_55 : decode cX0_drawOf 55 = .ok (.sipush 261, 3) := by decide +kernel
theorem dX0_drawOf_58 : decode cX0_drawOf 58 = .ok (.if_icmp .ne 47, 3) := by decide +kernel
theorem dX0_drawOf_61 : decode cX0_drawOf 61 = .ok (.aload_n 0, 1) := by decide +kernel
theorem dX0_drawOf_62 : decode cX0_drawOf 62 = .ok (.getfield 42, 3) := by decide +kernel
theorem dX0_drawOf_65 : decode cX0_drawOf 65 = .ok (.iload 4, 2) := by decide +kernel
theorem dX0_drawOf_67 : decode cX0_drawOf 67 = .ok (.iload 6, 2) := by decide +kernel
theorem dX0_drawOf_69 : decode cX0_drawOf 69 = .ok (.invokevirtual 299, 3) := by decide +kernel
theorem dX0_drawOf_72 : decode cX0_drawOf 72 = .ok (.ifCond .eq 33, 3) := by decide +kernel
theorem dX0_drawOf_75 : decode cX0_drawOf 75 = .ok (.aload_n 0, 1) := by decide +kernel
theorem dX0_drawOf_76 : decode cX0_drawOf 76 = .ok (.aload 5, 2) := by decide +kernel
theorem dX0_drawOf_78 : decode cX0_drawOf 78 = .ok (.iload 6, 2) := by decide +kernel
theorem dX0_drawOf_80 : decode cX0_drawOf 80 = .ok (.iload_n 1, 1) := by decide +kernel
theorem dX0_drawOf_81 : decode cX0_drawOf 81 = .ok (.iconst (-1), 1) := by decide +kernel
theorem dX0_drawOf_82 : decode cX0_drawOf 82 = .ok (.invokevirtual 302, 3) := by decide +kernel
theorem dX0_drawOf_85 : decode cX0_drawOf 85 = .ok (.lstore 7, 2) := by decide +kernel
theorem dX0_drawOf_87 : decode cX0_drawOf 87 = .ok (.lload_n 2, 1) := by decide +kernel
theorem dX0_drawOf_88 : decode cX0_drawOf 88 = .ok (.lload 7, 2) := by decide +kernel
theorem dX0_drawOf_90 : decode cX0_drawOf 90 = .ok (.ldc2_w 306, 3) := by decide +kernel
theorem dX0_drawOf_93 : decode cX0_drawOf 93 = .ok (.lcmp, 1) := by decide +kernel
theorem dX0_drawOf_94 : decode cX0_drawOf 94 = .ok (.ifCond .ne 7, 3) := by decide +kernel
theorem dX0_drawOf_101 : decode cX0_drawOf 101 = .ok (.lload 7, 2) := by decide +kernel
theorem dX0_drawOf_97 : decode cX0_drawOf 97 = .ok (.lconst 0, 1) := by decide +kernel
theorem dX0_drawOf_98 : decode cX0_drawOf 98 = .ok (.goto 5, 3) := by decide +kernel
theorem dX0_drawOf_103 : decode cX0_drawOf 103 = .ok (.ladd, 1) := by decide +kernel
theorem dX0_drawOf_104 : decode cX0_drawOf 104 = .ok (.lstore_n 2, 1) := by decide +kernel
theorem dX0_drawOf_105 : decode cX0_drawOf 105 = .ok (.iinc 6 1, 3) := by decide +kernel
theorem dX0_drawOf_108 : decode cX0_drawOf 108 = .ok (.goto (-76), 3) := by decide +kernel
theorem dX0_drawOf_117 : decode cX0_drawOf 117 = .ok (.lload_n 2, 1) := by decide +kernel
theorem dX0_drawOf_118 : decode cX0_drawOf 118 = .ok (.lreturn, 1) := by decide +kernel
theorem dX0_falls_0 : decode cX0_falls 0 = .ok (.lload_n 0, 1) := by decide +kernel
theorem dX0_falls_1 : decode cX0_falls 1 = .ok (.lstore 7, 2) := by decide +kernel
theorem dX0_falls_3 : decode cX0_falls 3 = .ok (.iconst 0, 1) := by decide +kernel
theorem dX0_falls_4 : decode cX0_falls 4 = .ok (.istore 9, 2) := by decide +kernel
theorem dX0_falls_6 : decode cX0_falls 6 = .ok (.iload 9, 2) := by decide +kernel
theorem dX0_falls_8 : decode cX0_falls 8 = .ok (.iload 6, 2) := by decide +kernel
theorem dX0_falls_10 : decode cX0_falls 10 = .ok (.if_icmp .ge 27, 3) := by decide +kernel
theorem dX0_falls_13 : decode cX0_falls 13 = .ok (.lload 7, 2) := by decide +kernel
theorem dX0_falls_15 : decode cX0_falls 15 = .ok (.lload_n 2, 1) := by decide +kernel
theorem dX0_falls_16 : decode cX0_falls 16 = .ok (.lload 4, 2) := by decide +kernel
theorem dX0_falls_18 : decode cX0_falls 18 = .ok (.lsub, 1) := by decide +kernel
theorem dX0_falls_19 : decode cX0_falls 19 = .ok (.ladd, 1) := by decide +kernel
theorem dX0_falls_20 : decode cX0_falls 20 = .ok (.lstore 7, 2) := by decide +kernel
theorem dX0_falls_22 : decode cX0_falls 22 = .ok (.lload 7, 2) := by decide +kernel
theorem dX0_falls_24 : decode cX0_falls 24 = .ok (.lconst 0, 1) := by decide +kernel
theorem dX0_falls_25 : decode cX0_falls 25 = .ok (.lcmp, 1) := by decide +kernel
theorem dX0_falls_26 : decode cX0_falls 26 = .ok (.ifCond .ge 5, 3) := by decide +kernel
theorem dX0_falls_31 : decode cX0_falls 31 = .ok (.iinc 9 1, 3) := by decide +kernel
theorem dX0_falls_34 : decode cX0_falls 34 = .ok (.goto (-28), 3) := by decide +kernel
theorem dX0_falls_29 : decode cX0_falls 29 = .ok (.iconst 1, 1) := by decide +kernel
theorem dX0_falls_30 : decode cX0_falls 30 = .ok (.ireturn, 1) := by decide +kernel
theorem dX0_falls_37 : decode cX0_falls 37 = .ok (.iconst 0, 1) := by decide +kernel
theorem dX0_falls_38 : decode cX0_falls 38 = .ok (.ireturn, 1) := by decide +kernel
theorem dX0_fewestKept_0 : decode cX0_fewestKept 0 = .ok (.lconst 0, 1) := by decide +kernel
theorem dX0_fewestKept_1 : decode cX0_fewestKept 1 = .ok (.lstore_n 3, 1) := by decide +kernel
theorem dX0_fewestKept_2 : decode cX0_fewestKept 2 = .ok (.iconst 0, 1) := by decide +kernel
theorem dX0_fewestKept_3 : decode cX0_fewestKept 3 = .ok (.istore 5, 2) := by decide +kernel
theorem dX0_fewestKept_5 : decode cX0_fewestKept 5 = .ok (.iconst 0, 1) := by decide +kernel
theorem dX0_fewestKept_6 : decode cX0_fewestKept 6 = .ok (.istore 6, 2) := by decide +kernel
theorem dX0_fewestKept_8 : decode cX0_fewestKept 8 = .ok (.iload 6, 2) := by decide +kernel
theorem dX0_fewestKept_10 : decode cX0_fewestKept 10 = .ok (.aload_n 0, 1) := by decide +kernel
theorem dX0_fewestKept_11 : decode cX0_fewestKept 11 = .ok (.getfield 21, 3) := by decide +kernel
theorem dX0_fewestKept_14 : decode cX0_fewestKept 14 = .ok (.getfield 171, 3) := by decide +kernel
theorem dX0_fewestKept_17 : decode cX0_fewestKept 17 = .ok (.if_icmp .ge 76, 3) := by decide +kernel
theorem dX0_fewestKept_20 : decode cX0_fewestKept 20 = .ok (.aload_n 0, 1) := by decide +kernel
theorem dX0_fewestKept_21 : decode cX0_fewestKept 21 = .ok (.getfield 21, 3) := by decide +kernel
theorem dX0_fewestKept_24 : decode cX0_fewestKept 24 = .ok (.getfield 204, 3) := by decide +kernel
theorem dX0_fewestKept_27 : decode cX0_fewestKept 27 = .ok (.iload 6, 2) := by decide +kernel
theorem dX0_fewestKept_29 : decode cX0_fewestKept 29 = .ok (.iaload, 1) := by decide +kernel
theorem dX0_fewestKept_30 : decode cX0_fewestKept 30 = .ok (.iload_n 1, 1) := by decide +kernel
theorem dX0_fewestKept_31 : decode cX0_fewestKept 31 = .ok (.if_icmp .ne 56, 3) := by decide +kernel
theorem dX0_fewestKept_34 : decode cX0_fewestKept 34 = .ok (.aload_n 0, 1) := by decide +kernel
theorem dX0_fewestKept_35 : decode cX0_fewestKept 35 = .ok (.getfield 21, 3) := by decide +kernel
theorem dX0_fewestKept_38 : decode cX0_fewestKept 38 = .ok (.getfield 124, 3) := by decide +kernel
theorem dX0_fewestKept_41 : decode cX0_fewestKept 41 = .ok (.iload 6, 2) := by decide +kernel
theorem dX0_fewestKept_43 : decode cX0_fewestKept 43 = .ok (.iaload, 1) := by decide +kernel
theorem dX0_fewestKept_44 : decode cX0_fewestKept 44 = .ok (.iconst (-1), 1) := by decide +kernel
theorem dX0_fewestKept_45 : decode cX0_fewestKept 45 = .ok (.if_icmp .eq 42, 3) := by decide +kernel
theorem dX0_fewestKept_48 : decode cX0_fewestKept 48 = .ok (.lload_n 3, 1) := by decide +kernel
theorem dX0_fewestKept_49 : decode cX0_fewestKept 49 = .ok (.aload_n 0, 1) := by decide +kernel
theorem dX0_fewestKept_50 : decode cX0_fewestKept 50 = .ok (.getfield 21, 3) := by decide +kernel
theorem dX0_fewestKept_53 : decode cX0_fewestKept 53 = .ok (.iload 6, 2) := by decide +kernel
theorem dX0_fewestKept_55 : decode cX0_fewestKept 55 = .ok (.invokevirtual 185, 3) := by decide +kernel
theorem dX0_fewestKept_58 : decode cX0_fewestKept 58 = .ok (.i2l, 1) := by decide +kernel
theorem dX0_fewestKept_59 : decode cX0_fewestKept 59 = .ok (.ladd, 1) := by decide +kernel
theorem dX0_fewestKept_60 : decode cX0_fewestKept 60 = .ok (.lstore_n 3, 1) := by decide +kernel
theorem dX0_fewestKept_61 : decode cX0_fewestKept 61 = .ok (.aload_n 0, 1) := by decide +kernel
theorem dX0_fewestKept_62 : decode cX0_fewestKept 62 = .ok (.getfield 61, 3) := by decide +kernel
theorem dX0_fewestKept_65 : decode cX0_fewestKept 65 = .ok (.iload 5, 2) := by decide +kernel
theorem dX0_fewestKept_67 : decode cX0_fewestKept 67 = .ok (.aload_n 0, 1) := by decide +kernel
theorem dX0_fewestKept_68 : decode cX0_fewestKept 68 = .ok (.getfield 21, 3) := by decide +kernel
theorem dX0_fewestKept_71 : decode cX0_fewestKept 71 = .ok (.iload 6, 2) := by decide +kernel
theorem dX0_fewestKept_73 : decode cX0_fewestKept 73 = .ok (.invokevirtual 185, 3) := by decide +kernel
theorem dX0_fewestKept_76 : decode cX0_fewestKept 76 = .ok (.aload_n 0, 1) := by decide +kernel
theorem dX0_fewestKept_77 : decode cX0_fewestKept 77 = .ok (.iload 6, 2) := by decide +kernel
theorem dX0_fewestKept_79 : decode cX0_fewestKept 79 = .ok (.invokevirtual 195, 3) := by decide +kernel
theorem dX0_fewestKept_82 : decode cX0_fewestKept 82 = .ok (.isub, 1) := by decide +kernel
theorem dX0_fewestKept_83 : decode cX0_fewestKept 83 = .ok (.iastore, 1) := by decide +kernel
theorem dX0_fewestKept_84 : decode cX0_fewestKept 84 = .ok (.iinc 5 1, 3) := by decide +kernel
theorem dX0_fewestKept_87 : decode cX0_fewestKept 87 = .ok (.iinc 6 1, 3) := by decide +kernel
theorem dX0_fewestKept_90 : decode cX0_fewestKept 90 = .ok (.goto (-82), 3) := by decide +kernel
theorem dX0_fewestKept_93 : decode cX0_fewestKept 93 = .ok (.iconst 0, 1) := by decide +kernel
theorem dX0_fewestKept_94 : decode cX0_fewestKept 94 = .ok (.istore 6, 2) := by decide +kernel
theorem dX0_fewestKept_96 : decode cX0_fewestKept 96 = .ok (.iload 6, 2) := by decide +kernel
theorem dX0_fewestKept_98 : decode cX0_fewestKept 98 = .ok (.iload 5, 2) := by decide +kernel
theorem dX0_fewestKept_100 : decode cX0_fewestKept 100 = .ok (.if_icmp .gt 50, 3) := by decide +kernel
theorem dX0_fewestKept_103 : decode cX0_fewestKept 103 = .ok (.aload_n 0, 1) := by decide +kernel
theorem dX0_fewestKept_104 : decode cX0_fewestKept 104 = .ok (.getfield 21, 3) := by decide +kernel
theorem dX0_fewestKept_107 : decode cX0_fewestKept 107 = .ok (.getfield 201, 3) := by decide +kernel
theorem dX0_fewestKept_110 : decode cX0_fewestKept 110 = .ok (.iload_n 1, 1) := by decide +kernel
theorem dX0_fewestKept_111 : decode cX0_fewestKept 111 = .ok (.iaload, 1) := by decide +kernel
theorem dX0_fewestKept_112 : decode cX0_fewestKept 112 = .ok (.i2l, 1) := by decide +kernel
theorem dX0_fewestKept_113 : decode cX0_fewestKept 113 = .ok (.lload_n 3, 1) := by decide +kernel
theorem dX0_fewestKept_114 : decode cX0_fewestKept 114 = .ok (.aload_n 0, 1) := by decide +kernel
theorem dX0_fewestKept_115 : decode cX0_fewestKept 115 = .ok (.getfield 21, 3) := by decide +kernel
theorem dX0_fewestKept_118 : decode cX0_fewestKept 118 = .ok (.getfield 222, 3) := by decide +kernel
theorem dX0_fewestKept_121 : decode cX0_fewestKept 121 = .ok (.iload_n 1, 1) := by decide +kernel
theorem dX0_fewestKept_122 : decode cX0_fewestKept 122 = .ok (.iaload, 1) := by decide +kernel
theorem dX0_fewestKept_123 : decode cX0_fewestKept 123 = .ok (.i2l, 1) := by decide +kernel
theorem dX0_fewestKept_124 : decode cX0_fewestKept 124 = .ok (.iload_n 2, 1) := by decide +kernel
theorem dX0_fewestKept_125 : decode cX0_fewestKept 125 = .ok (.invokestatic 357, 3) := by decide +kernel
theorem dX0_fewestKept_128 : decode cX0_fewestKept 128 = .ok (.ifCond .eq 6, 3) := by decide +kernel
theorem dX0_fewestKept_134 : decode cX0_fewestKept 134 = .ok (.lload_n 3, 1) := by decide +kernel
theorem dX0_fewestKept_135 : decode cX0_fewestKept 135 = .ok (.aload_n 0, 1) := by decide +kernel
theorem dX0_fewestKept_136 : decode cX0_fewestKept 136 = .ok (.iload 5, 2) := by decide +kernel
theorem dX0_fewestKept_138 : decode cX0_fewestKept 138 = .ok (.invokevirtual 361, 3) := by decide +kernel
theorem dX0_takeMostSpared_0 : decode cX0_takeMostSpared 0 = .ok (.iconst 0, 1) := by decide +kernel
theorem dX0_takeMostSpared_1 : decode cX0_takeMostSpared 1 = .ok (.istore_n 2, 1) := by decide +kernel
theorem dX0_takeMostSpared_2 : decode cX0_takeMostSpared 2 = .ok (.iconst 0, 1) := by decide +kernel
theorem dX0_takeMostSpared_3 : decode cX0_takeMostSpared 3 = .ok (.istore_n 3, 1) := by decide +kernel
theorem dX0_takeMostSpared_4 : decode cX0_takeMostSpared 4 = .ok (.iconst 0, 1) := by decide +kernel
theorem dX0_takeMostSpared_5 : decode cX0_takeMostSpared 5 = .ok (.istore 4, 2) := by decide +kernel
theorem dX0_takeMostSpared_7 : decode cX0_takeMostSpared 7 = .ok (.iload 4, 2) := by decide +kernel
theorem dX0_takeMostSpared_9 : decode cX0_takeMostSpared 9 = .ok (.iload_n 1, 1) := by decide +kernel
theorem dX0_takeMostSpared_10 : decode cX0_takeMostSpared 10 = .ok (.if_icmp .ge 31, 3) := by decide +kernel
theorem dX0_takeMostSpared_13 : decode cX0_takeMostSpared 13 = .ok (.aload_n 0, 1) := by decide +kernel
theorem dX0_takeMostSpared_14 : decode cX0_takeMostSpared 14 = .ok (.getfield 61, 3) := by decide +kernel
theorem dX0_takeMostSpared_17 : decode cX0_takeMostSpared 17 = .ok (.iload 4, 2) := by decide +kernel
theorem dX0_takeMostSpared_19 : decode cX0_takeMostSpared 19 = .ok (.iaload, 1) := by decide +kernel
theorem dX0_takeMostSpared_20 : decode cX0_takeMostSpared 20 = .ok (.iload_n 2, 1) := by decide +kernel
theorem dX0_takeMostSpared_21 : decode cX0_takeMostSpared 21 = .ok (.if_icmp .le 14, 3) := by decide +kernel
theorem dX0_takeMostSpared_24 : decode cX0_takeMostSpared 24 = .ok (.aload_n 0, 1) := by decide +kernel
theorem dX0_takeMostSpared_25 : decode cX0_takeMostSpared 25 = .ok (.getfield 61, 3) := by decide +kernel
theorem dX0_takeMostSpared_28 : decode cX0_takeMostSpared 28 = .ok (.iload 4, 2) := by decide +kernel
theorem dX0_takeMostSpared_30 : decode cX0_takeMostSpared 30 = .ok (.iaload, 1) := by decide +kernel
theorem dX0_takeMostSpared_31 : decode cX0_takeMostSpared 31 = .ok (.istore_n 2, 1) := by decide +kernel
theorem dX0_takeMostSpared_32 : decode cX0_takeMostSpared 32 = .ok (.iload 4, 2) := by decide +kernel
theorem dX0_takeMostSpared_34 : decode cX0_takeMostSpared 34 = .ok (.istore_n 3, 1) := by decide +kernel
theorem dX0_takeMostSpared_35 : decode cX0_takeMostSpared 35 = .ok (.iinc 4 1, 3) := by decide +kernel
theorem dX0_takeMostSpared_38 : decode cX0_takeMostSpared 38 = .ok (.goto (-31), 3) := by decide +kernel
theorem dX0_takeMostSpared_41 : decode cX0_takeMostSpared 41 = .ok (.aload_n 0, 1) := by decide +kernel
theorem dX0_takeMostSpared_42 : decode cX0_takeMostSpared 42 = .ok (.getfield 61, 3) := by decide +kernel
theorem dX0_takeMostSpared_45 : decode cX0_takeMostSpared 45 = .ok (.iload_n 3, 1) := by decide +kernel
theorem dX0_takeMostSpared_46 : decode cX0_takeMostSpared 46 = .ok (.iconst 0, 1) := by decide +kernel
theorem dX0_takeMostSpared_47 : decode cX0_takeMostSpared 47 = .ok (.iastore, 1) := by decide +kernel
theorem dX0_takeMostSpared_48 : decode cX0_takeMostSpared 48 = .ok (.iload_n 2, 1) := by decide +kernel
theorem dX0_takeMostSpared_49 : decode cX0_takeMostSpared 49 = .ok (.ireturn, 1) := by decide +kernel
theorem dX0_fewestKept_141 : decode cX0_fewestKept 141 = .ok (.i2l, 1) := by decide +kernel
theorem dX0_fewestKept_142 : decode cX0_fewestKept 142 = .ok (.lsub, 1) := by decide +kernel
theorem dX0_fewestKept_143 : decode cX0_fewestKept 143 = .ok (.lstore_n 3, 1) := by decide +kernel
theorem dX0_fewestKept_144 : decode cX0_fewestKept 144 = .ok (.iinc 6 1, 3) := by decide +kernel
theorem dX0_fewestKept_147 : decode cX0_fewestKept 147 = .ok (.goto (-51), 3) := by decide +kernel
theorem dX0_fewestKept_131 : decode cX0_fewestKept 131 = .ok (.iload 6, 2) := by decide +kernel
theorem dX0_fewestKept_133 : decode cX0_fewestKept 133 = .ok (.ireturn, 1) := by decide +kernel
theorem dX0_keepsFor_0 : decode cX0_keepsFor 0 = .ok (.iload_n 1, 1) := by decide +kernel
theorem dX0_keepsFor_1 : decode cX0_keepsFor 1 = .ok (.iconst (-1), 1) := by decide +kernel
theorem dX0_keepsFor_2 : decode cX0_keepsFor 2 = .ok (.if_icmp .eq 19, 3) := by decide +kernel
theorem dX0_keepsFor_21 : decode cX0_keepsFor 21 = .ok (.iconst 0, 1) := by decide +kernel
theorem dX0_keepsFor_5 : decode cX0_keepsFor 5 = .ok (.aload_n 0, 1) := by decide +kernel
theorem dX0_keepsFor_6 : decode cX0_keepsFor 6 = .ok (.sipush 262, 3) := by decide +kernel
theorem dX0_keepsFor_9 : decode cX0_keepsFor 9 = .ok (.iload_n 1, 1) := by decide +kernel
theorem dX0_keepsFor_10 : decode cX0_keepsFor 10 = .ok (.iload_n 2, 1) := by decide +kernel
theorem dX0_keepsFor_11 : decode cX0_keepsFor 11 = .ok (.invokevirtual 191, 3) := by decide +kernel
theorem dX0_keepsFor_14 : decode cX0_keepsFor 14 = .ok (.ifCond .eq 7, 3) := by decide +kernel
theorem dX0_keepsFor_17 : decode cX0_keepsFor 17 = .ok (.iconst 1, 1) := by decide +kernel
theorem dX0_keepsFor_18 : decode cX0_keepsFor 18 = .ok (.goto 4, 3) := by decide +kernel
theorem dX0_keepsFor_22 : decode cX0_keepsFor 22 = .ok (.ireturn, 1) := by decide +kernel
theorem dX0_lookAtNow_0 : decode cX0_lookAtNow 0 = .ok (.aload_n 0, 1) := by decide +kernel
theorem dX0_lookAtNow_1 : decode cX0_lookAtNow 1 = .ok (.getfield 42, 3) := by decide +kernel
theorem dX0_lookAtNow_4 : decode cX0_lookAtNow 4 = .ok (.aload_n 0, 1) := by decide +kernel
theorem dX0_lookAtNow_5 : decode cX0_lookAtNow 5 = .ok (.getfield 93, 3) := by decide +kernel
theorem dX0_lookAtNow_8 : decode cX0_lookAtNow 8 = .ok (.invokevirtual 113, 3) := by decide +kernel
theorem dX2_mark_0 : decode cX2_mark 0 = .ok (.aload_n 0, 1) := by decide +kernel
theorem dX2_mark_1 : decode cX2_mark 1 = .ok (.getfield 21, 3) := by decide +kernel
theorem dX2_mark_4 : decode cX2_mark 4 = .ok (.iconst 0, 1) := by decide +kernel
theorem dX2_mark_5 : decode cX2_mark 5 = .ok (.invokestatic 31, 3) := by decide +kernel
theorem dX2_mark_8 : decode cX2_mark 8 = .ok (.aload_n 0, 1) := by decide +kernel
theorem dX2_mark_9 : decode cX2_mark 9 = .ok (.getfield 24, 3) := by decide +kernel
theorem dX2_mark_12 : decode cX2_mark 12 = .ok (.iconst 1, 1) := by decide +kernel
theorem dX2_mark_13 : decode cX2_mark 13 = .ok (.isub, 1) := by decide +kernel
theorem dX2_mark_14 : decode cX2_mark 14 = .ok (.istore_n 2, 1) := by decide +kernel
theorem dX2_mark_15 : decode cX2_mark 15 = .ok (.iload_n 2, 1) := by decide +kernel
theorem dX2_mark_16 : decode cX2_mark 16 = .ok (.ifCond .lt 148, 3) := by decide +kernel
theorem dX2_mark_19 : decode cX2_mark 19 = .ok (.aload_n 0, 1) := by decide +kernel
theorem dX2_mark_20 : decode cX2_mark 20 = .ok (.getfield 11, 3) := by decide +kernel
theorem dX2_mark_23 : decode cX2_mark 23 = .ok (.iload_n 2, 1) := by decide +kernel
theorem dX2_mark_24 : decode cX2_mark 24 = .ok (.aaload, 1) := by decide +kernel
theorem dX2_mark_25 : decode cX2_mark 25 = .ok (.astore_n 3, 1) := by decide +kernel
theorem dX2_mark_26 : decode cX2_mark 26 = .ok (.aload_n 3, 1) := by decide +kernel
theorem dX2_mark_27 : decode cX2_mark 27 = .ok (.ifnull 15, 3) := by decide +kernel
theorem dX2_mark_42 : decode cX2_mark 42 = .ok (.iconst 0, 1) := by decide +kernel
theorem dX2_mark_43 : decode cX2_mark 43 = .ok (.istore 4, 2) := by decide +kernel
theorem dX2_mark_45 : decode cX2_mark 45 = .ok (.aload_n 0, 1) := by decide +kernel
theorem dX2_mark_46 : decode cX2_mark 46 = .ok (.getfield 17, 3) := by decide +kernel
theorem dX2_mark_49 : decode cX2_mark 49 = .ok (.iload_n 2, 1) := by decide +kernel
theorem dX2_mark_50 : decode cX2_mark 50 = .ok (.iload 4, 2) := by decide +kernel
theorem dX2_mark_52 : decode cX2_mark 52 = .ok (.ifCond .eq 23, 3) := by decide +kernel
theorem dX2_mark_75 : decode cX2_mark 75 = .ok (.iconst 0, 1) := by decide +kernel
theorem dX2_mark_76 : decode cX2_mark 76 = .ok (.iastore, 1) := by decide +kernel
theorem dX2_mark_77 : decode cX2_mark 77 = .ok (.iconst 0, 1) := by decide +kernel
theorem dX2_mark_78 : decode cX2_mark 78 = .ok (.istore 5, 2) := by decide +kernel
theorem dX2_mark_80 : decode cX2_mark 80 = .ok (.iload 4, 2) := by decide +kernel
theorem dX2_mark_82 : decode cX2_mark 82 = .ok (.ifCond .eq 76, 3) := by decide +kernel
theorem dX2_mark_158 : decode cX2_mark 158 = .ok (.iinc 2 (-1), 3) := by decide +kernel
theorem dX2_mark_161 : decode cX2_mark 161 = .ok (.goto (-146), 3) := by decide +kernel
theorem dX2_mark_30 : decode cX2_mark 30 = .ok (.aload_n 3, 1) := by decide +kernel
theorem dX2_mark_31 : decode cX2_mark 31 = .ok (.getfield 37, 3) := by decide +kernel
theorem dX2_mark_34 : decode cX2_mark 34 = .ok (.iload_n 1, 1) := by decide +kernel
theorem dX2_mark_35 : decode cX2_mark 35 = .ok (.if_icmp .gt 7, 3) := by decide +kernel
theorem dX2_mark_38 : decode cX2_mark 38 = .ok (.iconst 1, 1) := by decide +kernel
theorem dX2_mark_39 : decode cX2_mark 39 = .ok (.goto 4, 3) := by decide +kernel
theorem dX2_mark_55 : decode cX2_mark 55 = .ok (.iconst 1, 1) := by decide +kernel
theorem dX2_mark_56 : decode cX2_mark 56 = .ok (.aload_n 3, 1) := by decide +kernel
theorem dX2_mark_57 : decode cX2_mark 57 = .ok (.getfield 28, 3) := by decide +kernel
theorem dX2_mark_60 : decode cX2_mark 60 = .ok (.ishl, 1) := by decide +kernel
theorem dX2_mark_61 : decode cX2_mark 61 = .ok (.iconst 1, 1) := by decide +kernel
theorem dX2_mark_62 : decode cX2_mark 62 = .ok (.isub, 1) := by decide +kernel
theorem dX2_mark_63 : decode cX2_mark 63 = .ok (.aload_n 0, 1) := by decide +kernel
theorem dX2_mark_64 : decode cX2_mark 64 = .ok (.getfield 21, 3) := by decide +kernel
theorem dX2_mark_67 : decode cX2_mark 67 = .ok (.iload_n 2, 1) := by decide +kernel
theorem dX2_mark_68 : decode cX2_mark 68 = .ok (.iaload, 1) := by decide +kernel
theorem dX2_mark_69 : decode cX2_mark 69 = .ok (.iconst (-1), 1) := by decide +kernel
theorem dX2_mark_70 : decode cX2_mark 70 = .ok (.ixor, 1) := by decide +kernel
theorem dX2_mark_71 : decode cX2_mark 71 = .ok (.iand, 1) := by decide +kernel
theorem dX2_mark_72 : decode cX2_mark 72 = .ok (.goto 4, 3) := by decide +kernel
theorem dX2_mark_85 : decode cX2_mark 85 = .ok (.iload 5, 2) := by decide +kernel
theorem dX2_mark_87 : decode cX2_mark 87 = .ok (.aload_n 3, 1) := by decide +kernel
theorem dX2_mark_88 : decode cX2_mark 88 = .ok (.getfield 28, 3) := by decide +kernel
theorem dX2_mark_91 : decode cX2_mark 91 = .ok (.if_icmp .ge 67, 3) := by decide +kernel
theorem dX2_mark_94 : decode cX2_mark 94 = .ok (.aload_n 3, 1) := by decide +kernel
theorem dX2_mark_95 : decode cX2_mark 95 = .ok (.getfield 40, 3) := by decide +kernel
theorem dX2_mark_98 : decode cX2_mark 98 = .ok (.iload 5, 2) := by decide +kernel
theorem dX2_mark_100 : decode cX2_mark 100 = .ok (.iaload, 1) := by decide +kernel
theorem dX2_mark_101 : decode cX2_mark 101 = .ok (.sipush 256, 3) := by decide +kernel
theorem dX2_mark_104 : decode cX2_mark 104 = .ok (.if_icmp .ne 48, 3) := by decide +kernel
theorem dX2_mark_107 : decode cX2_mark 107 = .ok (.aload_n 0, 1) := by decide +kernel
theorem dX2_mark_108 : decode cX2_mark 108 = .ok (.iload_n 2, 1) := by decide +kernel
theorem dX2_mark_109 : decode cX2_mark 109 = .ok (.iload 5, 2) := by decide +kernel
theorem dX2_mark_111 : decode cX2_mark 111 = .ok (.invokevirtual 43, 3) := by decide +kernel
theorem dX2_mark_114 : decode cX2_mark 114 = .ok (.ifCond .eq 38, 3) := by decide +kernel
theorem dX2_mark_117 : decode cX2_mark 117 = .ok (.aload_n 3, 1) := by decide +kernel
theorem dX2_mark_118 : decode cX2_mark 118 = .ok (.getfield 47, 3) := by decide +kernel
theorem dX2_mark_121 : decode cX2_mark 121 = .ok (.iload 5, 2) := by decide +kernel
theorem dX2_mark_123 : decode cX2_mark 123 = .ok (.iaload, 1) := by decide +kernel
theorem dX2_mark_124 : decode cX2_mark 124 = .ok (.iload_n 2, 1) := by decide +kernel
theorem dX2_mark_125 : decode cX2_mark 125 = .ok (.if_icmp .ge 27, 3) := by decide +kernel
theorem dX2_mark_128 : decode cX2_mark 128 = .ok (.aload_n 0, 1) := by decide +kernel
theorem dX2_mark_129 : decode cX2_mark 129 = .ok (.getfield 21, 3) := by decide +kernel
theorem dX2_mark_132 : decode cX2_mark 132 = .ok (.aload_n 3, 1) := by decide +kernel
theorem dX2_mark_133 : decode cX2_mark 133 = .ok (.getfield 47, 3) := by decide +kernel
theorem dX2_mark_136 : decode cX2_mark 136 = .ok (.iload 5, 2) := by decide +kernel
theorem dX2_mark_138 : decode cX2_mark 138 = .ok (.iaload, 1) := by decide +kernel
theorem dX2_mark_139 : decode cX2_mark 139 = .ok (.dup2, 1) := by decide +kernel
theorem dX2_mark_140 : decode cX2_mark 140 = .ok (.iaload, 1) := by decide +kernel
theorem dX2_mark_141 : decode cX2_mark 141 = .ok (.iconst 1, 1) := by decide +kernel
theorem dX2_mark_142 : decode cX2_mark 142 = .ok (.aload_n 3, 1) := by decide +kernel
theorem dX2_mark_143 : decode cX2_mark 143 = .ok (.getfield 50, 3) := by decide +kernel
theorem dX2_mark_146 : decode cX2_mark 146 = .ok (.iload 5, 2) := by decide +kernel
theorem dX2_mark_148 : decode cX2_mark 148 = .ok (.iaload, 1) := by decide +kernel
theorem dX2_mark_149 : decode cX2_mark 149 = .ok (.ishl, 1) := by decide +kernel
theorem dX2_mark_150 : decode cX2_mark 150 = .ok (.ior, 1) := by decide +kernel
theorem dX2_mark_151 : decode cX2_mark 151 = .ok (.iastore, 1) := by decide +kernel
theorem dX2_mark_152 : decode cX2_mark 152 = .ok (.iinc 5 1, 3) := by decide +kernel
theorem dX2_mark_155 : decode cX2_mark 155 = .ok (.goto (-75), 3) := by decide +kernel
theorem dX2_mark_164 : decode cX2_mark 164 = .ok (.return_, 1) := by decide +kernel
theorem dX0_lookAtNow_11 : decode cX0_lookAtNow 11 = .ok (.aload_n 0, 1) := by decide +kernel
theorem dX0_lookAtNow_12 : decode cX0_lookAtNow 12 = .ok (.aload_n 0, 1) := by decide +kernel
theorem dX0_lookAtNow_13 : decode cX0_lookAtNow 13 = .ok (.getfield 97, 3) := by decide +kernel
theorem dX0_lookAtNow_16 : decode cX0_lookAtNow 16 = .ok (.ifCond .eq 10, 3) := by decide +kernel
theorem dX0_lookAtNow_26 : decode cX0_lookAtNow 26 = .ok (.aload_n 0, 1) := by decide +kernel
theorem dX0_lookAtNow_27 : decode cX0_lookAtNow 27 = .ok (.getfield 35, 3) := by decide +kernel
theorem dX0_lookAtNow_30 : decode cX0_lookAtNow 30 = .ok (.aload_n 0, 1) := by decide +kernel
theorem dX0_lookAtNow_31 : decode cX0_lookAtNow 31 = .ok (.getfield 93, 3) := by decide +kernel
theorem dX0_lookAtNow_34 : decode cX0_lookAtNow 34 = .ok (.invokevirtual 117, 3) := by decide +kernel
theorem dX7_priceIn_0 : decode cX7_priceIn 0 = .ok (.iload_n 1, 1) := by decide +kernel
theorem dX7_priceIn_1 : decode cX7_priceIn 1 = .ok (.sipush 399, 3) := by decide +kernel
theorem dX7_priceIn_4 : decode cX7_priceIn 4 = .ok (.invokestatic 27, 3) := by decide +kernel
theorem dX7_priceIn_7 : decode cX7_priceIn 7 = .ok (.istore_n 2, 1) := by decide +kernel
theorem dX7_priceIn_8 : decode cX7_priceIn 8 = .ok (.iload_n 2, 1) := by decide +kernel
theorem dX7_priceIn_9 : decode cX7_priceIn 9 = .ok (.ifCond .lt 26, 3) := by decide +kernel
theorem dX7_priceIn_12 : decode cX7_priceIn 12 = .ok (.aload_n 0, 1) := by decide +kernel
theorem dX7_priceIn_13 : decode cX7_priceIn 13 = .ok (.getfield 9, 3) := by decide +kernel
theorem dX7_priceIn_16 : decode cX7_priceIn 16 = .ok (.iload_n 2, 1) := by decide +kernel
theorem dX7_priceIn_17 : decode cX7_priceIn 17 = .ok (.iaload, 1) := by decide +kernel
theorem dX7_priceIn_18 : decode cX7_priceIn 18 = .ok (.iconst (-1), 1) := by decide +kernel
theorem dX7_priceIn_19 : decode cX7_priceIn 19 = .ok (.if_icmp .eq 10, 3) := by decide +kernel
theorem dX7_priceIn_29 : decode cX7_priceIn 29 = .ok (.iinc 2 (-1), 3) := by decide +kernel
theorem dX7_priceIn_32 : decode cX7_priceIn 32 = .ok (.goto (-24), 3) := by decide +kernel
theorem dX7_priceIn_22 : decode cX7_priceIn 22 = .ok (.aload_n 0, 1) := by decide +kernel
theorem dX7_priceIn_23 : decode cX7_priceIn 23 = .ok (.getfield 9, 3) := by decide +kernel
theorem dX7_priceIn_26 : decode cX7_priceIn 26 = .ok (.iload_n 2, 1) := by decide +kernel
theorem dX7_priceIn_27 : decode cX7_priceIn 27 = .ok (.iaload, 1) := by decide +kernel
theorem dX7_priceIn_28 : decode cX7_priceIn 28 = .ok (.ireturn, 1) := by decide +kernel
theorem dX7_priceIn_35 : decode cX7_priceIn 35 = .ok (.bipush 100, 2) := by decide +kernel
theorem dX7_priceIn_37 : decode cX7_priceIn 37 = .ok (.ireturn, 1) := by decide +kernel
theorem dX0_lookAtNow_19 : decode cX0_lookAtNow 19 = .ok (.aload_n 0, 1) := by decide +kernel
theorem dX0_lookAtNow_20 : decode cX0_lookAtNow 20 = .ok (.getfield 107, 3) := by decide +kernel
theorem dX0_lookAtNow_23 : decode cX0_lookAtNow 23 = .ok (.goto 14, 3) := by decide +kernel
theorem dX0_lookAtNow_37 : decode cX0_lookAtNow 37 = .ok (.putfield 121, 3) := by decide +kernel
theorem dX0_lookAtNow_40 : decode cX0_lookAtNow 40 = .ok (.return_, 1) := by decide +kernel
theorem dX0_passWeek_0 : decode cX0_passWeek 0 = .ok (.aload_n 0, 1) := by decide +kernel
theorem dX0_passWeek_1 : decode cX0_passWeek 1 = .ok (.getfield 93, 3) := by decide +kernel
theorem dX0_passWeek_4 : decode cX0_passWeek 4 = .ok (.sipush 399, 3) := by decide +kernel
theorem dX0_passWeek_7 : decode cX0_passWeek 7 = .ok (.if_icmp .lt 4, 3) := by decide +kernel
theorem dX0_passWeek_11 : decode cX0_passWeek 11 = .ok (.aload_n 0, 1) := by decide +kernel
theorem dX0_passWeek_12 : decode cX0_passWeek 12 = .ok (.invokevirtual 133, 3) := by decide +kernel
theorem dX0_passWeek_15 : decode cX0_passWeek 15 = .ok (.aload_n 0, 1) := by decide +kernel
theorem dX0_passWeek_16 : decode cX0_passWeek 16 = .ok (.invokevirtual 136, 3) := by decide +kernel
theorem dX0_reap_0 : decode cX0_reap 0 = .ok (.aload_n 0, 1) := by decide +kernel
theorem dX0_reap_1 : decode cX0_reap 1 = .ok (.getfield 97, 3) := by decide +kernel
theorem dX0_reap_4 : decode cX0_reap 4 = .ok (.ifCond .eq 21, 3) := by decide +kernel
theorem dX0_reap_25 : decode cX0_reap 25 = .ok (.aload_n 0, 1) := by decide +kernel
theorem dX0_reap_26 : decode cX0_reap 26 = .ok (.getfield 35, 3) := by decide +kernel
theorem dX0_reap_29 : decode cX0_reap 29 = .ok (.getfield 167, 3) := by decide +kernel
theorem dX0_reap_32 : decode cX0_reap 32 = .ok (.aload_n 0, 1) := by decide +kernel
theorem dX0_reap_33 : decode cX0_reap 33 = .ok (.getfield 93, 3) := by decide +kernel
theorem dX0_reap_36 : decode cX0_reap 36 = .ok (.aaload, 1) := by decide +kernel
theorem dX0_reap_37 : decode cX0_reap 37 = .ok (.ifnull 7, 3) := by decide +kernel
theorem dX0_reap_44 : decode cX0_reap 44 = .ok (.iconst 0, 1) := by decide +kernel
theorem dX0_reap_40 : decode cX0_reap 40 = .ok (.iconst 1, 1) := by decide +kernel
theorem dX0_reap_41 : decode cX0_reap 41 = .ok (.goto 4, 3) := by decide +kernel
theorem dX0_reap_7 : decode cX0_reap 7 = .ok (.aload_n 0, 1) := by decide +kernel
theorem dX0_reap_8 : decode cX0_reap 8 = .ok (.getfield 93, 3) := by decide +kernel
theorem dX0_reap_11 : decode cX0_reap 11 = .ok (.bipush 13, 2) := by decide +kernel
theorem dX0_reap_13 : decode cX0_reap 13 = .ok (.irem, 1) := by decide +kernel
theorem dX0_reap_14 : decode cX0_reap 14 = .ok (.ifCond .ne 7, 3) := by decide +kernel
theorem dX0_reap_21 : decode cX0_reap 21 = .ok (.iconst 0, 1) := by decide +kernel
theorem dX0_reap_22 : decode cX0_reap 22 = .ok (.goto 23, 3) := by decide +kernel
theorem dX0_reap_17 : decode cX0_reap 17 = .ok (.iconst 1, 1) := by decide +kernel
theorem dX0_reap_18 : decode cX0_reap 18 = .ok (.goto 27, 3) := by decide +kernel
theorem dX0_reap_45 : decode cX0_reap 45 = .ok (.istore_n 1, 1) := by decide +kernel
theorem dX0_reap_46 : decode cX0_reap 46 = .ok (.iconst 0, 1) := by decide +kernel
theorem dX0_reap_47 : decode cX0_reap 47 = .ok (.istore_n 2, 1) := by decide +kernel
theorem dX0_reap_48 : decode cX0_reap 48 = .ok (.iload_n 1, 1) := by decide +kernel
theorem dX0_reap_49 : decode cX0_reap 49 = .ok (.ifCond .eq 96, 3) := by decide +kernel
theorem dX0_reap_52 : decode cX0_reap 52 = .ok (.iload_n 2, 1) := by decide +kernel
theorem dX0_reap_53 : decode cX0_reap 53 = .ok (.aload_n 0, 1) := by decide +kernel
theorem dX0_reap_54 : decode cX0_reap 54 = .ok (.getfield 21, 3) := by decide +kernel
theorem dX0_reap_57 : decode cX0_reap 57 = .ok (.getfield 171, 3) := by decide +kernel
theorem dX0_reap_60 : decode cX0_reap 60 = .ok (.if_icmp .ge 85, 3) := by decide +kernel
theorem dX0_reap_63 : decode cX0_reap 63 = .ok (.aload_n 0, 1) := by decide +kernel
theorem dX0_reap_64 : decode cX0_reap 64 = .ok (.getfield 21, 3) := by decide +kernel
theorem dX0_reap_67 : decode cX0_reap 67 = .ok (.getfield 124, 3) := by decide +kernel
theorem dX0_reap_70 : decode cX0_reap 70 = .ok (.iload_n 2, 1) := by decide +kernel
theorem dX0_reap_71 : decode cX0_reap 71 = .ok (.iaload, 1) := by decide +kernel
theorem dX0_reap_72 : decode cX0_reap 72 = .ok (.istore_n 3, 1) := by decide +kernel
theorem dX0_reap_73 : decode cX0_reap 73 = .ok (.aload_n 0, 1) := by decide +kernel
theorem dX0_reap_74 : decode cX0_reap 74 = .ok (.getfield 97, 3) := by decide +kernel
theorem dX0_reap_77 : decode cX0_reap 77 = .ok (.ifCond .eq 23, 3) := by decide +kernel
theorem dX0_reap_100 : decode cX0_reap 100 = .ok (.aload_n 0, 1) := by decide +kernel
theorem dX0_reap_101 : decode cX0_reap 101 = .ok (.getfield 35, 3) := by decide +kernel
theorem dX0_reap_104 : decode cX0_reap 104 = .ok (.iload_n 2, 1) := by decide +kernel
theorem dX0_reap_105 : decode cX0_reap 105 = .ok (.aload_n 0, 1) := by decide +kernel
theorem dX0_reap_106 : decode cX0_reap 106 = .ok (.getfield 93, 3) := by decide +kernel
theorem dX0_reap_109 : decode cX0_reap 109 = .ok (.invokevirtual 175, 3) := by decide +kernel
theorem dX7_sacksOf_0 : decode cX7_sacksOf 0 = .ok (.aload_n 0, 1) := by decide +kernel
theorem dX7_sacksOf_1 : decode cX7_sacksOf 1 = .ok (.getfield 17, 3) := by decide +kernel
theorem dX7_sacksOf_4 : decode cX7_sacksOf 4 = .ok (.iload_n 2, 1) := by decide +kernel
theorem dX7_sacksOf_5 : decode cX7_sacksOf 5 = .ok (.aaload, 1) := by decide +kernel
theorem dX7_sacksOf_6 : decode cX7_sacksOf 6 = .ok (.astore_n 3, 1) := by decide +kernel
theorem dX7_sacksOf_7 : decode cX7_sacksOf 7 = .ok (.aload_n 3, 1) := by decide +kernel
theorem dX7_sacksOf_8 : decode cX7_sacksOf 8 = .ok (.ifnull 25, 3) := by decide +kernel
theorem dX7_sacksOf_33 : decode cX7_sacksOf 33 = .ok (.iconst (-1), 1) := by decide +kernel
theorem dX7_sacksOf_34 : decode cX7_sacksOf 34 = .ok (.ireturn, 1) := by decide +kernel
theorem dX7_sacksOf_11 : decode cX7_sacksOf 11 = .ok (.iload_n 1, 1) := by decide +kernel
theorem dX7_sacksOf_12 : decode cX7_sacksOf 12 = .ok (.aload_n 3, 1) := by decide +kernel
theorem dX7_sacksOf_13 : decode cX7_sacksOf 13 = .ok (.getfield 33, 3) := by decide +kernel
theorem dX7_sacksOf_16 : decode cX7_sacksOf 16 = .ok (.if_icmp .lt 17, 3) := by decide +kernel
theorem dX7_sacksOf_19 : decode cX7_sacksOf 19 = .ok (.iload_n 1, 1) := by decide +kernel
theorem dX7_sacksOf_20 : decode cX7_sacksOf 20 = .ok (.aload_n 3, 1) := by decide +kernel
theorem dX7_sacksOf_21 : decode cX7_sacksOf 21 = .ok (.getfield 33, 3) := by decide +kernel
theorem dX7_sacksOf_24 : decode cX7_sacksOf 24 = .ok (.isub, 1) := by decide +kernel
theorem dX7_sacksOf_25 : decode cX7_sacksOf 25 = .ok (.aload_n 3, 1) := by decide +kernel
theorem dX7_sacksOf_26 : decode cX7_sacksOf 26 = .ok (.getfield 37, 3) := by decide +kernel
theorem dX7_sacksOf_29 : decode cX7_sacksOf 29 = .ok (.arraylength, 1) := by decide +kernel
theorem dX7_sacksOf_30 : decode cX7_sacksOf 30 = .ok (.if_icmp .lt 5, 3) := by decide +kernel
theorem dX7_sacksOf_35 : decode cX7_sacksOf 35 = .ok (.aload_n 3, 1) := by decide +kernel
theorem dX7_sacksOf_36 : decode cX7_sacksOf 36 = .ok (.getfield 37, 3) := by decide +kernel
theorem dX7_sacksOf_39 : decode cX7_sacksOf 39 = .ok (.iload_n 1, 1) := by decide +kernel
theorem dX7_sacksOf_40 : decode cX7_sacksOf 40 = .ok (.aload_n 3, 1) := by decide +kernel
theorem dX7_sacksOf_41 : decode cX7_sacksOf 41 = .ok (.getfield 33, 3) := by decide +kernel
theorem dX7_sacksOf_44 : decode cX7_sacksOf 44 = .ok (.isub, 1) := by decide +kernel
theorem dX7_sacksOf_45 : decode cX7_sacksOf 45 = .ok (.iaload, 1) := by decide +kernel
theorem dX7_sacksOf_46 : decode cX7_sacksOf 46 = .ok (.ireturn, 1) := by decide +kernel
theorem dX0_reap_80 : decode cX0_reap 80 = .ok (.aload_n 0, 1) := by decide +kernel
theorem dX0_reap_81 : decode cX0_reap 81 = .ok (.getfield 110, 3) := by decide +kernel
theorem dX0_reap_84 : decode cX0_reap 84 = .ok (.aload_n 0, 1) := by decide +kernel
theorem dX0_reap_85 : decode cX0_reap 85 = .ok (.getfield 21, 3) := by decide +kernel
theorem dX0_reap_88 : decode cX0_reap 88 = .ok (.getfield 172, 3) := by decide +kernel
theorem dX0_reap_91 : decode cX0_reap 91 = .ok (.iload_n 2, 1) := by decide +kernel
theorem dX0_reap_92 : decode cX0_reap 92 = .ok (.iaload, 1) := by decide +kernel
theorem dX0_reap_93 : decode cX0_reap 93 = .ok (.imul, 1) := by decide +kernel
theorem dX0_reap_94 : decode cX0_reap 94 = .ok (.bipush 100, 2) := by decide +kernel
theorem dX0_reap_96 : decode cX0_reap 96 = .ok (.idiv, 1) := by decide +kernel
theorem dX0_reap_97 : decode cX0_reap 97 = .ok (.goto 15, 3) := by decide +kernel
theorem dX0_reap_112 : decode cX0_reap 112 = .ok (.istore 4, 2) := by decide +kernel
theorem dX0_reap_114 : decode cX0_reap 114 = .ok (.iload_n 3, 1) := by decide +kernel
theorem dX0_reap_115 : decode cX0_reap 115 = .ok (.iconst (-1), 1) := by decide +kernel
theorem dX0_reap_116 : decode cX0_reap 116 = .ok (.if_icmp .eq 23, 3) := by decide +kernel
theorem dX0_reap_119 : decode cX0_reap 119 = .ok (.iload 4, 2) := by decide +kernel
theorem dX0_reap_121 : decode cX0_reap 121 = .ok (.iconst (-1), 1) := by decide +kernel
theorem dX0_reap_122 : decode cX0_reap 122 = .ok (.if_icmp .eq 17, 3) := by decide +kernel
theorem dX0_reap_125 : decode cX0_reap 125 = .ok (.aload_n 0, 1) := by decide +kernel
theorem dX0_reap_126 : decode cX0_reap 126 = .ok (.getfield 12, 3) := by decide +kernel
theorem dX0_reap_129 : decode cX0_reap 129 = .ok (.getfield 179, 3) := by decide +kernel
theorem dX0_reap_132 : decode cX0_reap 132 = .ok (.iload_n 3, 1) := by decide +kernel
theorem dX0_reap_133 : decode cX0_reap 133 = .ok (.dup2, 1) := by decide +kernel
theorem dX0_reap_134 : decode cX0_reap 134 = .ok (.iaload, 1) := by decide +kernel
theorem dX0_reap_135 : decode cX0_reap 135 = .ok (.iload 4, 2) := by decide +kernel
theorem dX0_reap_137 : decode cX0_reap 137 = .ok (.iadd, 1) := by decide +kernel
theorem dX0_reap_138 : decode cX0_reap 138 = .ok (.iastore, 1) := by decide +kernel
theorem dX0_reap_139 : decode cX0_reap 139 = .ok (.iinc 2 1, 3) := by decide +kernel
theorem dX0_reap_142 : decode cX0_reap 142 = .ok (.goto (-94), 3) := by decide +kernel
theorem dX0_reap_145 : decode cX0_reap 145 = .ok (.return_, 1) := by decide +kernel
theorem dX0_passWeek_19 : decode cX0_passWeek 19 = .ok (.aload_n 0, 1) := by decide +kernel
theorem dX0_passWeek_20 : decode cX0_passWeek 20 = .ok (.getfield 93, 3) := by decide +kernel
theorem dX0_passWeek_23 : decode cX0_passWeek 23 = .ok (.ifCond .eq 32, 3) := by decide +kernel
theorem dX0_passWeek_26 : decode cX0_passWeek 26 = .ok (.aload_n 0, 1) := by decide +kernel
theorem dX0_passWeek_27 : decode cX0_passWeek 27 = .ok (.getfield 93, 3) := by decide +kernel
theorem dX0_passWeek_30 : decode cX0_passWeek 30 = .ok (.bipush 13, 2) := by decide +kernel
theorem dX0_passWeek_32 : decode cX0_passWeek 32 = .ok (.irem, 1) := by decide +kernel
theorem dX0_passWeek_33 : decode cX0_passWeek 33 = .ok (.ifCond .ne 22, 3) := by decide +kernel
theorem dX0_passWeek_36 : decode cX0_passWeek 36 = .ok (.aload_n 0, 1) := by decide +kernel
theorem dX0_passWeek_37 : decode cX0_passWeek 37 = .ok (.invokevirtual 139, 3) := by decide +kernel
theorem dX0_passWeek_40 : decode cX0_passWeek 40 = .ok (.aload_n 0, 1) := by decide +kernel
theorem dX0_passWeek_41 : decode cX0_passWeek 41 = .ok (.invokevirtual 142, 3) := by decide +kernel
theorem dX0_payMortgages_0 : decode cX0_payMortgages 0 = .ok (.iconst 0, 1) := by decide +kernel
theorem dX0_payMortgages_1 : decode cX0_payMortgages 1 = .ok (.istore_n 1, 1) := by decide +kernel
theorem dX0_payMortgages_2 : decode cX0_payMortgages 2 = .ok (.iload_n 1, 1) := by decide +kernel
theorem dX0_payMortgages_3 : decode cX0_payMortgages 3 = .ok (.aload_n 0, 1) := by decide +kernel
theorem dX0_payMortgages_4 : decode cX0_payMortgages 4 = .ok (.getfield 21, 3) := by decide +kernel
theorem dX0_payMortgages_7 : decode cX0_payMortgages 7 = .ok (.getfield 216, 3) := by decide +kernel
theorem dX0_payMortgages_10 : decode cX0_payMortgages 10 = .ok (.if_icmp .ge 96, 3) := by decide +kernel
theorem dX0_payMortgages_13 : decode cX0_payMortgages 13 = .ok (.aload_n 0, 1) := by decide +kernel
theorem dX0_payMortgages_14 : decode cX0_payMortgages 14 = .ok (.getfield 21, 3) := by decide +kernel
theorem dX0_payMortgages_17 : decode cX0_payMortgages 17 = .ok (.getfield 219, 3) := by decide +kernel
theorem dX0_payMortgages_20 : decode cX0_payMortgages 20 = .ok (.iload_n 1, 1) := by decide +kernel
theorem dX0_payMortgages_21 : decode cX0_payMortgages 21 = .ok (.iaload, 1) := by decide +kernel
theorem dX0_payMortgages_22 : decode cX0_payMortgages 22 = .ok (.iconst (-1), 1) := by decide +kernel
theorem dX0_payMortgages_23 : decode cX0_payMortgages 23 = .ok (.if_icmp .eq 6, 3) := by decide +kernel
theorem dX0_payMortgages_29 : decode cX0_payMortgages 29 = .ok (.aload_n 0, 1) := by decide +kernel
theorem dX0_payMortgages_30 : decode cX0_payMortgages 30 = .ok (.getfield 21, 3) := by decide +kernel
theorem dX0_payMortgages_33 : decode cX0_payMortgages 33 = .ok (.getfield 201, 3) := by decide +kernel
theorem dX0_payMortgages_36 : decode cX0_payMortgages 36 = .ok (.iload_n 1, 1) := by decide +kernel
theorem dX0_payMortgages_37 : decode cX0_payMortgages 37 = .ok (.iaload, 1) := by decide +kernel
theorem dX0_payMortgages_38 : decode cX0_payMortgages 38 = .ok (.aload_n 0, 1) := by decide +kernel
theorem dX0_payMortgages_39 : decode cX0_payMortgages 39 = .ok (.getfield 21, 3) := by decide +kernel
theorem dX0_payMortgages_42 : decode cX0_payMortgages 42 = .ok (.getfield 222, 3) := by decide +kernel
theorem dX0_payMortgages_45 : decode cX0_payMortgages 45 = .ok (.iload_n 1, 1) := by decide +kernel
theorem dX0_payMortgages_46 : decode cX0_payMortgages 46 = .ok (.iaload, 1) := by decide +kernel
theorem dX0_payMortgages_47 : decode cX0_payMortgages 47 = .ok (.if_icmp .ge 32, 3) := by decide +kernel
theorem dX0_payMortgages_79 : decode cX0_payMortgages 79 = .ok (.aload_n 0, 1) := by decide +kernel
theorem dX0_payMortgages_80 : decode cX0_payMortgages 80 = .ok (.getfield 21, 3) := by decide +kernel
theorem dX0_payMortgages_83 : decode cX0_payMortgages 83 = .ok (.getfield 201, 3) := by decide +kernel
theorem dX0_payMortgages_86 : decode cX0_payMortgages 86 = .ok (.iload_n 1, 1) := by decide +kernel
theorem dX0_payMortgages_87 : decode cX0_payMortgages 87 = .ok (.dup2, 1) := by decide +kernel
theorem dX0_payMortgages_88 : decode cX0_payMortgages 88 = .ok (.iaload, 1) := by decide +kernel
theorem dX0_payMortgages_89 : decode cX0_payMortgages 89 = .ok (.aload_n 0, 1) := by decide +kernel
theorem dX0_payMortgages_90 : decode cX0_payMortgages 90 = .ok (.getfield 21, 3) := by decide +kernel
theorem dX0_payMortgages_93 : decode cX0_payMortgages 93 = .ok (.getfield 222, 3) := by decide +kernel
theorem dX0_payMortgages_96 : decode cX0_payMortgages 96 = .ok (.iload_n 1, 1) := by decide +kernel
theorem dX0_payMortgages_97 : decode cX0_payMortgages 97 = .ok (.iaload, 1) := by decide +kernel
theorem dX0_payMortgages_98 : decode cX0_payMortgages 98 = .ok (.isub, 1) := by decide +kernel
theorem dX0_payMortgages_99 : decode cX0_payMortgages 99 = .ok (.iastore, 1) := by decide +kernel
theorem dX0_payMortgages_50 : decode cX0_payMortgages 50 = .ok (.aload_n 0, 1) := by decide +kernel
theorem dX0_payMortgages_51 : decode cX0_payMortgages 51 = .ok (.getfield 21, 3) := by decide +kernel
theorem dX0_payMortgages_54 : decode cX0_payMortgages 54 = .ok (.getfield 219, 3) := by decide +kernel
theorem dX0_payMortgages_57 : decode cX0_payMortgages 57 = .ok (.iload_n 1, 1) := by decide +kernel
theorem dX0_payMortgages_58 : decode cX0_payMortgages 58 = .ok (.aload_n 0, 1) := by decide +kernel
theorem dX0_payMortgages_59 : decode cX0_payMortgages 59 = .ok (.getfield 93, 3) := by decide +kernel
theorem dX0_payMortgages_62 : decode cX0_payMortgages 62 = .ok (.bipush 13, 2) := by decide +kernel
theorem dX0_payMortgages_64 : decode cX0_payMortgages 64 = .ok (.idiv, 1) := by decide +kernel
theorem dX0_payMortgages_65 : decode cX0_payMortgages 65 = .ok (.iastore, 1) := by decide +kernel
theorem dX0_payMortgages_66 : decode cX0_payMortgages 66 = .ok (.aload_n 0, 1) := by decide +kernel
theorem dX0_payMortgages_67 : decode cX0_payMortgages 67 = .ok (.getfield 21, 3) := by decide +kernel
theorem dX0_payMortgages_70 : decode cX0_payMortgages 70 = .ok (.getfield 201, 3) := by decide +kernel
theorem dX0_payMortgages_73 : decode cX0_payMortgages 73 = .ok (.iload_n 1, 1) := by decide +kernel
theorem dX0_payMortgages_74 : decode cX0_payMortgages 74 = .ok (.iconst 0, 1) := by decide +kernel
theorem dX0_payMortgages_75 : decode cX0_payMortgages 75 = .ok (.iastore, 1) := by decide +kernel
theorem dX0_payMortgages_76 : decode cX0_payMortgages 76 = .ok (.goto 24, 3) := by decide +kernel
theorem dX0_payMortgages_26 : decode cX0_payMortgages 26 = .ok (.goto 74, 3) := by decide +kernel
theorem dX0_payMortgages_100 : decode cX0_payMortgages 100 = .ok (.iinc 1 1, 3) := by decide +kernel
theorem dX0_payMortgages_103 : decode cX0_payMortgages 103 = .ok (.goto (-101), 3) := by decide +kernel
theorem dX0_payMortgages_106 : decode cX0_payMortgages 106 = .ok (.return_, 1) := by decide +kernel
theorem dX0_passWeek_44 : decode cX0_passWeek 44 = .ok (.aload_n 0, 1) := by decide +kernel
theorem dX0_passWeek_45 : decode cX0_passWeek 45 = .ok (.getfield 97, 3) := by decide +kernel
theorem dX0_passWeek_48 : decode cX0_passWeek 48 = .ok (.ifCond .eq 7, 3) := by decide +kernel
theorem dX0_passWeek_51 : decode cX0_passWeek 51 = .ok (.aload_n 0, 1) := by decide +kernel
theorem dX0_passWeek_52 : decode cX0_passWeek 52 = .ok (.invokevirtual 145, 3) := by decide +kernel
theorem dX0_tellWrits_0 : decode cX0_tellWrits 0 = .ok (.iconst 0, 1) := by decide +kernel
theorem dX0_tellWrits_1 : decode cX0_tellWrits 1 = .ok (.istore_n 1, 1) := by decide +kernel
theorem dX0_tellWrits_2 : decode cX0_tellWrits 2 = .ok (.iload_n 1, 1) := by decide +kernel
theorem dX0_tellWrits_3 : decode cX0_tellWrits 3 = .ok (.aload_n 0, 1) := by decide +kernel
theorem dX0_tellWrits_4 : decode cX0_tellWrits 4 = .ok (.getfield 21, 3) := by decide +kernel
theorem dX0_tellWrits_7 : decode cX0_tellWrits 7 = .ok (.getfield 171, 3) := by decide +kernel
theorem dX0_tellWrits_10 : decode cX0_tellWrits 10 = .ok (.if_icmp .ge 75, 3) := by decide +kernel
theorem dX0_tellWrits_13 : decode cX0_tellWrits 13 = .ok (.aload_n 0, 1) := by decide +kernel
theorem dX0_tellWrits_14 : decode cX0_tellWrits 14 = .ok (.getfield 21, 3) := by decide +kernel
theorem dX0_tellWrits_17 : decode cX0_tellWrits 17 = .ok (.getfield 124, 3) := by decide +kernel
theorem dX0_tellWrits_20 : decode cX0_tellWrits 20 = .ok (.iload_n 1, 1) := by decide +kernel
theorem dX0_tellWrits_21 : decode cX0_tellWrits 21 = .ok (.iaload, 1) := by decide +kernel
theorem dX0_tellWrits_22 : decode cX0_tellWrits 22 = .ok (.iconst (-1), 1) := by decide +kernel
theorem dX0_tellWrits_23 : decode cX0_tellWrits 23 = .ok (.if_icmp .eq 56, 3) := by decide +kernel
theorem dX0_tellWrits_26 : decode cX0_tellWrits 26 = .ok (.aload_n 0, 1) := by decide +kernel
theorem dX0_tellWrits_27 : decode cX0_tellWrits 27 = .ok (.getfield 21, 3) := by decide +kernel
theorem dX0_tellWrits_30 : decode cX0_tellWrits 30 = .ok (.getfield 188, 3) := by decide +kernel
theorem dX0_tellWrits_33 : decode cX0_tellWrits 33 = .ok (.iload_n 1, 1) := by decide +kernel
theorem dX0_tellWrits_34 : decode cX0_tellWrits 34 = .ok (.iaload, 1) := by decide +kernel
theorem dX0_tellWrits_35 : decode cX0_tellWrits 35 = .ok (.ifCond .le 44, 3) := by decide +kernel
theorem dX0_tellWrits_38 : decode cX0_tellWrits 38 = .ok (.aload_n 0, 1) := by decide +kernel
theorem dX0_tellWrits_39 : decode cX0_tellWrits 39 = .ok (.getfield 28, 3) := by decide +kernel
theorem dX0_tellWrits_42 : decode cX0_tellWrits 42 = .ok (.iload_n 1, 1) := by decide +kernel
theorem dX0_tellWrits_43 : decode cX0_tellWrits 43 = .ok (.invokevirtual 225, 3) := by decide +kernel
theorem dX10_openOn_0 : decode cX10_openOn 0 = .ok (.iconst 0, 1) := by decide +kernel
theorem dX10_openOn_1 : decode cX10_openOn 1 = .ok (.istore_n 2, 1) := by decide +kernel
theorem dX10_openOn_2 : decode cX10_openOn 2 = .ok (.iload_n 2, 1) := by decide +kernel
theorem dX10_openOn_3 : decode cX10_openOn 3 = .ok (.aload_n 0, 1) := by decide +kernel
theorem dX10_openOn_4 : decode cX10_openOn 4 = .ok (.getfield 39, 3) := by decide +kernel
theorem dX10_openOn_7 : decode cX10_openOn 7 = .ok (.if_icmp .ge 31, 3) := by decide +kernel
theorem dX10_openOn_10 : decode cX10_openOn 10 = .ok (.aload_n 0, 1) := by decide +kernel
theorem dX10_openOn_11 : decode cX10_openOn 11 = .ok (.getfield 27, 3) := by decide +kernel
theorem dX10_openOn_14 : decode cX10_openOn 14 = .ok (.iload_n 2, 1) := by decide +kernel
theorem dX10_openOn_15 : decode cX10_openOn 15 = .ok (.iaload, 1) := by decide +kernel
theorem dX10_openOn_16 : decode cX10_openOn 16 = .ok (.iconst 1, 1) := by decide +kernel
theorem dX10_openOn_17 : decode cX10_openOn 17 = .ok (.if_icmp .ne 15, 3) := by decide +kernel
theorem dX10_openOn_32 : decode cX10_openOn 32 = .ok (.iinc 2 1, 3) := by decide +kernel
theorem dX10_openOn_35 : decode cX10_openOn 35 = .ok (.goto (-33), 3) := by decide +kernel
theorem dX10_openOn_20 : decode cX10_openOn 20 = .ok (.aload_n 0, 1) := by decide +kernel
theorem dX10_openOn_21 : decode cX10_openOn 21 = .ok (.getfield 9, 3) := by decide +kernel
theorem dX10_openOn_24 : decode cX10_openOn 24 = .ok (.iload_n 2, 1) := by decide +kernel
theorem dX10_openOn_25 : decode cX10_openOn 25 = .ok (.iaload, 1) := by decide +kernel
theorem dX10_openOn_26 : decode cX10_openOn 26 = .ok (.iload_n 1, 1) := by decide +kernel
theorem dX10_openOn_27 : decode cX10_openOn 27 = .ok (.if_icmp .ne 5, 3) := by decide +kernel
theorem dX10_openOn_30 : decode cX10_openOn 30 = .ok (.iload_n 2, 1) := by decide +kernel
theorem dX10_openOn_31 : decode cX10_openOn 31 = .ok (.ireturn, 1) := by decide +kernel
theorem dX10_openOn_38 : decode cX10_openOn 38 = .ok (.iconst (-1), 1) := by decide +kernel
theorem dX10_openOn_39 : decode cX10_openOn 39 = .ok (.ireturn, 1) := by decide +kernel
theorem dX0_tellWrits_46 : decode cX0_tellWrits 46 = .ok (.iconst (-1), 1) := by decide +kernel
theorem dX0_tellWrits_47 : decode cX0_tellWrits 47 = .ok (.if_icmp .ne 32, 3) := by decide +kernel
theorem dX0_tellWrits_50 : decode cX0_tellWrits 50 = .ok (.aload_n 0, 1) := by decide +kernel
theorem dX0_tellWrits_51 : decode cX0_tellWrits 51 = .ok (.getfield 28, 3) := by decide +kernel
theorem dX0_tellWrits_54 : decode cX0_tellWrits 54 = .ok (.iload_n 1, 1) := by decide +kernel
theorem dX0_tellWrits_55 : decode cX0_tellWrits 55 = .ok (.aload_n 0, 1) := by decide +kernel
theorem dX0_tellWrits_56 : decode cX0_tellWrits 56 = .ok (.getfield 21, 3) := by decide +kernel
theorem dX0_tellWrits_59 : decode cX0_tellWrits 59 = .ok (.getfield 124, 3) := by decide +kernel
theorem dX0_tellWrits_62 : decode cX0_tellWrits 62 = .ok (.iload_n 1, 1) := by decide +kernel
theorem dX0_tellWrits_63 : decode cX0_tellWrits 63 = .ok (.iaload, 1) := by decide +kernel
theorem dX0_tellWrits_64 : decode cX0_tellWrits 64 = .ok (.aload_n 0, 1) := by decide +kernel
theorem dX0_tellWrits_65 : decode cX0_tellWrits 65 = .ok (.getfield 42, 3) := by decide +kernel
theorem dX0_tellWrits_68 : decode cX0_tellWrits 68 = .ok (.iconst 0, 1) := by decide +kernel
theorem dX0_tellWrits_69 : decode cX0_tellWrits 69 = .ok (.invokevirtual 228, 3) := by decide +kernel
theorem dX0_tellWrits_72 : decode cX0_tellWrits 72 = .ok (.aload_n 0, 1) := by decide +kernel
theorem dX0_tellWrits_73 : decode cX0_tellWrits 73 = .ok (.getfield 93, 3) := by decide +kernel
theorem dX0_tellWrits_76 : decode cX0_tellWrits 76 = .ok (.invokevirtual 231, 3) := by decide +kernel
theorem dX10_add_0 : decode cX10_add 0 = .ok (.aload_n 0, 1) := by decide +kernel
theorem dX10_add_1 : decode cX10_add 1 = .ok (.getfield 39, 3) := by decide +kernel
theorem dX10_add_4 : decode cX10_add 4 = .ok (.bipush 60, 2) := by decide +kernel
theorem dX10_add_6 : decode cX10_add 6 = .ok (.if_icmp .lt 4, 3) := by decide +kernel
theorem dX10_add_10 : decode cX10_add 10 = .ok (.aload_n 0, 1) := by decide +kernel
theorem dX10_add_11 : decode cX10_add 11 = .ok (.getfield 9, 3) := by decide +kernel
theorem dX10_add_14 : decode cX10_add 14 = .ok (.aload_n 0, 1) := by decide +kernel
theorem dX10_add_15 : decode cX10_add 15 = .ok (.getfield 39, 3) := by decide +kernel
theorem dX10_add_18 : decode cX10_add 18 = .ok (.iload_n 1, 1) := by decide +kernel
theorem dX10_add_19 : decode cX10_add 19 = .ok (.iastore, 1) := by decide +kernel
theorem dX10_add_20 : decode cX10_add 20 = .ok (.aload_n 0, 1) := by decide +kernel
theorem dX10_add_21 : decode cX10_add 21 = .ok (.getfield 15, 3) := by decide +kernel
theorem dX10_add_24 : decode cX10_add 24 = .ok (.aload_n 0, 1) := by decide +kernel
theorem dX10_add_25 : decode cX10_add 25 = .ok (.getfield 39, 3) := by decide +kernel
theorem dX10_add_28 : decode cX10_add 28 = .ok (.iload_n 2, 1) := by decide +kernel
theorem dX10_add_29 : decode cX10_add 29 = .ok (.iastore, 1) := by decide +kernel
theorem dX10_add_30 : decode cX10_add 30 = .ok (.aload_n 0, 1) := by decide +kernel
theorem dX10_add_31 : decode cX10_add 31 = .ok (.getfield 18, 3) := by decide +kernel
theorem dX10_add_34 : decode cX10_add 34 = .ok (.aload_n 0, 1) := by decide +kernel
theorem dX10_add_35 : decode cX10_add 35 = .ok (.getfield 39, 3) := by decide +kernel
theorem dX10_add_38 : decode cX10_add 38 = .ok (.iconst 0, 1) := by decide +kernel
theorem dX10_add_39 : decode cX10_add 39 = .ok (.iastore, 1) := by decide +kernel
theorem dX10_add_40 : decode cX10_add 40 = .ok (.aload_n 0, 1) := by decide +kernel
theorem dX10_add_41 : decode cX10_add 41 = .ok (.getfield 21, 3) := by decide +kernel
theorem dX10_add_44 : decode cX10_add 44 = .ok (.aload_n 0, 1) := by decide +kernel
theorem dX10_add_45 : decode cX10_add 45 = .ok (.getfield 39, 3) := by decide +kernel
theorem dX10_add_48 : decode cX10_add 48 = .ok (.iload_n 3, 1) := by decide +kernel
theorem dX10_add_49 : decode cX10_add 49 = .ok (.iastore, 1) := by decide +kernel
theorem dX10_add_50 : decode cX10_add 50 = .ok (.aload_n 0, 1) := by decide +kernel
theorem dX10_add_51 : decode cX10_add 51 = .ok (.getfield 24, 3) := by decide +kernel
theorem dX10_add_54 : decode cX10_add 54 = .ok (.aload_n 0, 1) := by decide +kernel
theorem dX10_add_55 : decode cX10_add 55 = .ok (.getfield 39, 3) := by decide +kernel
theorem dX10_add_58 : decode cX10_add 58 = .ok (.iload 4, 2) := by decide +kernel
theorem dX10_add_60 : decode cX10_add 60 = .ok (.iastore, 1) := by decide +kernel
theorem dX10_add_61 : decode cX10_add 61 = .ok (.aload_n 0, 1) := by decide +kernel
theorem dX10_add_62 : decode cX10_add 62 = .ok (.getfield 27, 3) := by decide +kernel
theorem dX10_add_65 : decode cX10_add 65 = .ok (.aload_n 0, 1) := by decide +kernel
theorem dX10_add_66 : decode cX10_add 66 = .ok (.getfield 39, 3) := by decide +kernel
theorem dX10_add_69 : decode cX10_add 69 = .ok (.iconst 1, 1) := by decide +kernel
theorem dX10_add_70 : decode cX10_add 70 = .ok (.iastore, 1) := by decide +kernel
theorem dX10_add_71 : decode cX10_add 71 = .ok (.aload_n 0, 1) := by decide +kernel
theorem dX10_add_72 : decode cX10_add 72 = .ok (.dup, 1) := by decide +kernel
theorem dX10_add_73 : decode cX10_add 73 = .ok (.getfield 39, 3) := by decide +kernel
theorem dX10_add_76 : decode cX10_add 76 = .ok (.iconst 1, 1) := by decide +kernel
theorem dX10_add_77 : decode cX10_add 77 = .ok (.iadd, 1) := by decide +kernel
theorem dX10_add_78 : decode cX10_add 78 = .ok (.putfield 39, 3) := by decide +kernel
theorem dX10_add_81 : decode cX10_add 81 = .ok (.return_, 1) := by decide +kernel
theorem dX10_add_9 : decode cX10_add 9 = .ok (.return_, 1) := by decide +kernel
theorem dX0_tellWrits_79 : decode cX0_tellWrits 79 = .ok (.iinc 1 1, 3) := by decide +kernel
theorem dX0_tellWrits_82 : decode cX0_tellWrits 82 = .ok (.goto (-80), 3) := by decide +kernel
theorem dX0_tellWrits_85 : decode cX0_tellWrits 85 = .ok (.return_, 1) := by decide +kernel
theorem dX0_passWeek_55 : decode cX0_passWeek 55 = .ok (.iconst 0, 1) := by decide +kernel
theorem dX0_passWeek_56 : decode cX0_passWeek 56 = .ok (.istore_n 1, 1) := by decide +kernel
theorem dX0_passWeek_57 : decode cX0_passWeek 57 = .ok (.iload_n 1, 1) := by decide +kernel
theorem dX0_passWeek_58 : decode cX0_passWeek 58 = .ok (.aload_n 0, 1) := by decide +kernel
theorem dX0_passWeek_59 : decode cX0_passWeek 59 = .ok (.getfield 28, 3) := by decide +kernel
theorem dX0_passWeek_62 : decode cX0_passWeek 62 = .ok (.getfield 148, 3) := by decide +kernel
theorem dX0_passWeek_65 : decode cX0_passWeek 65 = .ok (.if_icmp .ge 27, 3) := by decide +kernel
theorem dX0_passWeek_68 : decode cX0_passWeek 68 = .ok (.aload_n 0, 1) := by decide +kernel
theorem dX0_passWeek_69 : decode cX0_passWeek 69 = .ok (.getfield 28, 3) := by decide +kernel
theorem dX0_passWeek_72 : decode cX0_passWeek 72 = .ok (.getfield 151, 3) := by decide +kernel
theorem dX0_passWeek_75 : decode cX0_passWeek 75 = .ok (.iload_n 1, 1) := by decide +kernel
theorem dX0_passWeek_76 : decode cX0_passWeek 76 = .ok (.iaload, 1) := by decide +kernel
theorem dX0_passWeek_77 : decode cX0_passWeek 77 = .ok (.iconst 1, 1) := by decide +kernel
theorem dX0_passWeek_78 : decode cX0_passWeek 78 = .ok (.if_icmp .ne 8, 3) := by decide +kernel
theorem dX0_passWeek_81 : decode cX0_passWeek 81 = .ok (.aload_n 0, 1) := by decide +kernel
theorem dX0_passWeek_82 : decode cX0_passWeek 82 = .ok (.iload_n 1, 1) := by decide +kernel
theorem dX0_passWeek_83 : decode cX0_passWeek 83 = .ok (.invokevirtual 154, 3) := by decide +kernel
theorem dX0_passWeek_86 : decode cX0_passWeek 86 = .ok (.iinc 1 1, 3) := by decide +kernel
theorem dX0_passWeek_89 : decode cX0_passWeek 89 = .ok (.goto (-32), 3) := by decide +kernel
theorem dX0_passWeek_92 : decode cX0_passWeek 92 = .ok (.aload_n 0, 1) := by decide +kernel
theorem dX0_passWeek_93 : decode cX0_passWeek 93 = .ok (.invokevirtual 157, 3) := by decide +kernel
theorem dX0_payDraws_0 : decode cX0_payDraws 0 = .ok (.iconst 0, 1) := by decide +kernel
theorem dX0_payDraws_1 : decode cX0_payDraws 1 = .ok (.istore_n 1, 1) := by decide +kernel
theorem dX0_payDraws_2 : decode cX0_payDraws 2 = .ok (.iload_n 1, 1) := by decide +kernel
theorem dX0_payDraws_3 : decode cX0_payDraws 3 = .ok (.aload_n 0, 1) := by decide +kernel
theorem dX0_payDraws_4 : decode cX0_payDraws 4 = .ok (.getfield 12, 3) := by decide +kernel
theorem dX0_payDraws_7 : decode cX0_payDraws 7 = .ok (.getfield 263, 3) := by decide +kernel
theorem dX0_payDraws_10 : decode cX0_payDraws 10 = .ok (.if_icmp .ge 87, 3) := by decide +kernel
theorem dX0_payDraws_13 : decode cX0_payDraws 13 = .ok (.aload_n 0, 1) := by decide +kernel
theorem dX0_payDraws_14 : decode cX0_payDraws 14 = .ok (.getfield 12, 3) := by decide +kernel
theorem dX0_payDraws_17 : decode cX0_payDraws 17 = .ok (.getfield 182, 3) := by decide +kernel
theorem dX0_payDraws_20 : decode cX0_payDraws 20 = .ok (.iload_n 1, 1) := by decide +kernel
theorem dX0_payDraws_21 : decode cX0_payDraws 21 = .ok (.iaload, 1) := by decide +kernel
theorem dX0_payDraws_22 : decode cX0_payDraws 22 = .ok (.iconst 1, 1) := by decide +kernel
theorem dX0_payDraws_23 : decode cX0_payDraws 23 = .ok (.if_icmp .ne 68, 3) := by decide +kernel
theorem dX0_payDraws_26 : decode cX0_payDraws 26 = .ok (.aload_n 0, 1) := by decide +kernel
theorem dX0_payDraws_27 : decode cX0_payDraws 27 = .ok (.getfield 12, 3) := by decide +kernel
theorem dX0_payDraws_30 : decode cX0_payDraws 30 = .ok (.getfield 130, 3) := by decide +kernel
theorem dX0_payDraws_33 : decode cX0_payDraws 33 = .ok (.iload_n 1, 1) := by decide +kernel
theorem dX0_payDraws_34 : decode cX0_payDraws 34 = .ok (.iaload, 1) := by decide +kernel
theorem dX0_payDraws_35 : decode cX0_payDraws 35 = .ok (.iconst (-1), 1) := by decide +kernel
theorem dX0_payDraws_36 : decode cX0_payDraws 36 = .ok (.if_icmp .ne 6, 3) := by decide +kernel
theorem dX0_payDraws_42 : decode cX0_payDraws 42 = .ok (.aload_n 0, 1) := by decide +kernel
theorem dX0_payDraws_43 : decode cX0_payDraws 43 = .ok (.iload_n 1, 1) := by decide +kernel
theorem dX0_payDraws_44 : decode cX0_payDraws 44 = .ok (.invokevirtual 264, 3) := by decide +kernel
theorem dX0_payDraws_47 : decode cX0_payDraws 47 = .ok (.lstore_n 2, 1) := by decide +kernel
theorem dX0_payDraws_48 : decode cX0_payDraws 48 = .ok (.lload_n 2, 1) := by decide +kernel
theorem dX0_payDraws_49 : decode cX0_payDraws 49 = .ok (.lconst 0, 1) := by decide +kernel
theorem dX0_payDraws_50 : decode cX0_payDraws 50 = .ok (.lcmp, 1) := by decide +kernel
theorem dX0_payDraws_51 : decode cX0_payDraws 51 = .ok (.ifCond .le 40, 3) := by decide +kernel
theorem dX0_payDraws_54 : decode cX0_payDraws 54 = .ok (.lload_n 2, 1) := by decide +kernel
theorem dX0_payDraws_55 : decode cX0_payDraws 55 = .ok (.aload_n 0, 1) := by decide +kernel
theorem dX0_payDraws_56 : decode cX0_payDraws 56 = .ok (.getfield 49, 3) := by decide +kernel
theorem dX0_payDraws_59 : decode cX0_payDraws 59 = .ok (.getfield 268, 3) := by decide +kernel
theorem dX0_payDraws_62 : decode cX0_payDraws 62 = .ok (.i2l, 1) := by decide +kernel
theorem dX0_payDraws_63 : decode cX0_payDraws 63 = .ok (.lcmp, 1) := by decide +kernel
theorem dX0_payDraws_64 : decode cX0_payDraws 64 = .ok (.ifCond .gt 27, 3) := by decide +kernel
theorem dX0_payDraws_67 : decode cX0_payDraws 67 = .ok (.aload_n 0, 1) := by decide +kernel
theorem dX0_payDraws_68 : decode cX0_payDraws 68 = .ok (.getfield 49, 3) := by decide +kernel
theorem dX0_payDraws_71 : decode cX0_payDraws 71 = .ok (.dup, 1) := by decide +kernel
theorem dX0_payDraws_72 : decode cX0_payDraws 72 = .ok (.getfield 268, 3) := by decide +kernel
theorem dX0_payDraws_75 : decode cX0_payDraws 75 = .ok (.lload_n 2, 1) := by decide +kernel
theorem dX0_payDraws_76 : decode cX0_payDraws 76 = .ok (.l2i, 1) := by decide +kernel
theorem dX0_payDraws_77 : decode cX0_payDraws 77 = .ok (.isub, 1) := by decide +kernel
theorem dX0_payDraws_78 : decode cX0_payDraws 78 = .ok (.putfield 268, 3) := by decide +kernel
theorem dX0_payDraws_81 : decode cX0_payDraws 81 = .ok (.aload_n 0, 1) := by decide +kernel
theorem dX0_payDraws_82 : decode cX0_payDraws 82 = .ok (.getfield 12, 3) := by decide +kernel
theorem dX0_payDraws_85 : decode cX0_payDraws 85 = .ok (.iload_n 1, 1) := by decide +kernel
theorem dX0_payDraws_86 : decode cX0_payDraws 86 = .ok (.lload_n 2, 1) := by decide +kernel
theorem dX0_payDraws_87 : decode cX0_payDraws 87 = .ok (.l2i, 1) := by decide +kernel
theorem dX0_payDraws_88 : decode cX0_payDraws 88 = .ok (.invokevirtual 271, 3) := by decide +kernel
theorem dX4_gain_0 : decode cX4_gain 0 = .ok (.aload_n 0, 1) := by decide +kernel
theorem dX4_gain_1 : decode cX4_gain 1 = .ok (.getfield 15, 3) := by decide +kernel
theorem dX4_gain_4 : decode cX4_gain 4 = .ok (.iload_n 1, 1) := by decide +kernel
theorem dX4_gain_5 : decode cX4_gain 5 = .ok (.aload_n 0, 1) := by decide +kernel
theorem dX4_gain_6 : decode cX4_gain 6 = .ok (.getfield 15, 3) := by decide +kernel
theorem dX4_gain_9 : decode cX4_gain 9 = .ok (.iload_n 1, 1) := by decide +kernel
theorem dX4_gain_10 : decode cX4_gain 10 = .ok (.iaload, 1) := by decide +kernel
theorem dX4_gain_11 : decode cX4_gain 11 = .ok (.iload_n 2, 1) := by decide +kernel
theorem dX4_gain_12 : decode cX4_gain 12 = .ok (.iadd, 1) := by decide +kernel
theorem dX4_gain_13 : decode cX4_gain 13 = .ok (.ldc 43, 2) := by decide +kernel
theorem dX4_gain_15 : decode cX4_gain 15 = .ok (.invokestatic 44, 3) := by decide +kernel
theorem dX4_gain_18 : decode cX4_gain 18 = .ok (.iastore, 1) := by decide +kernel
theorem dX4_gain_19 : decode cX4_gain 19 = .ok (.return_, 1) := by decide +kernel
theorem dX0_payDraws_39 : decode cX0_payDraws 39 = .ok (.goto 52, 3) := by decide +kernel
theorem dX0_payDraws_91 : decode cX0_payDraws 91 = .ok (.iinc 1 1, 3) := by decide +kernel
theorem dX0_payDraws_94 : decode cX0_payDraws 94 = .ok (.goto (-92), 3) := by decide +kernel
theorem dX0_payDraws_97 : decode cX0_payDraws 97 = .ok (.return_, 1) := by decide +kernel
theorem dX0_passWeek_96 : decode cX0_passWeek 96 = .ok (.aload_n 0, 1) := by decide +kernel
theorem dX0_passWeek_97 : decode cX0_passWeek 97 = .ok (.getfield 64, 3) := by decide +kernel
theorem dX0_passWeek_100 : decode cX0_passWeek 100 = .ok (.ifCond .eq 13, 3) := by decide +kernel
theorem dX0_passWeek_113 : decode cX0_passWeek 113 = .ok (.aload_n 0, 1) := by decide +kernel
theorem dX0_passWeek_114 : decode cX0_passWeek 114 = .ok (.invokevirtual 164, 3) := by decide +kernel
theorem dX0_renewBans_0 : decode cX0_renewBans 0 = .ok (.iconst 0, 1) := by decide +kernel
theorem dX0_renewBans_1 : decode cX0_renewBans 1 = .ok (.istore_n 1, 1) := by decide +kernel
theorem dX0_renewBans_2 : decode cX0_renewBans 2 = .ok (.iload_n 1, 1) := by decide +kernel
theorem dX0_renewBans_3 : decode cX0_renewBans 3 = .ok (.aload_n 0, 1) := by decide +kernel
theorem dX0_renewBans_4 : decode cX0_renewBans 4 = .ok (.getfield 12, 3) := by decide +kernel
theorem dX0_renewBans_7 : decode cX0_renewBans 7 = .ok (.getfield 263, 3) := by decide +kernel
theorem dX0_renewBans_10 : decode cX0_renewBans 10 = .ok (.if_icmp .ge 35, 3) := by decide +kernel
theorem dX0_renewBans_13 : decode cX0_renewBans 13 = .ok (.aload_n 0, 1) := by decide +kernel
theorem dX0_renewBans_14 : decode cX0_renewBans 14 = .ok (.getfield 12, 3) := by decide +kernel
theorem dX0_renewBans_17 : decode cX0_renewBans 17 = .ok (.getfield 274, 3) := by decide +kernel
theorem dX0_renewBans_20 : decode cX0_renewBans 20 = .ok (.iload_n 1, 1) := by decide +kernel
theorem dX0_renewBans_21 : decode cX0_renewBans 21 = .ok (.aload_n 0, 1) := by decide +kernel
theorem dX0_renewBans_22 : decode cX0_renewBans 22 = .ok (.sipush 263, 3) := by decide +kernel
theorem dX0_renewBans_25 : decode cX0_renewBans 25 = .ok (.iload_n 1, 1) := by decide +kernel
theorem dX0_renewBans_26 : decode cX0_renewBans 26 = .ok (.iconst (-1), 1) := by decide +kernel
theorem dX0_renewBans_27 : decode cX0_renewBans 27 = .ok (.invokevirtual 191, 3) := by decide +kernel
theorem dX0_renewBans_30 : decode cX0_renewBans 30 = .ok (.ifCond .eq 7, 3) := by decide +kernel
theorem dX0_renewBans_37 : decode cX0_renewBans 37 = .ok (.iconst 0, 1) := by decide +kernel
theorem dX0_renewBans_33 : decode cX0_renewBans 33 = .ok (.iconst 1, 1) := by decide +kernel
theorem dX0_renewBans_34 : decode cX0_renewBans 34 = .ok (.goto 4, 3) := by decide +kernel
theorem dX0_renewBans_38 : decode cX0_renewBans 38 = .ok (.iastore, 1) := by decide +kernel
theorem dX0_renewBans_39 : decode cX0_renewBans 39 = .ok (.iinc 1 1, 3) := by decide +kernel
theorem dX0_renewBans_42 : decode cX0_renewBans 42 = .ok (.goto (-40), 3) := by decide +kernel
theorem dX0_renewBans_45 : decode cX0_renewBans 45 = .ok (.aload_n 0, 1) := by decide +kernel
theorem dX0_renewBans_46 : decode cX0_renewBans 46 = .ok (.getfield 12, 3) := by decide +kernel
theorem dX0_renewBans_49 : decode cX0_renewBans 49 = .ok (.getfield 274, 3) := by decide +kernel
theorem dX0_renewBans_52 : decode cX0_renewBans 52 = .ok (.iconst 0, 1) := by decide +kernel
theorem dX0_renewBans_53 : decode cX0_renewBans 53 = .ok (.aload_n 0, 1) := by decide +kernel
theorem dX0_renewBans_54 : decode cX0_renewBans 54 = .ok (.getfield 12, 3) := by decide +kernel
theorem dX0_renewBans_57 : decode cX0_renewBans 57 = .ok (.getfield 277, 3) := by decide +kernel
theorem dX0_renewBans_60 : decode cX0_renewBans 60 = .ok (.iconst 0, 1) := by decide +kernel
theorem dX0_renewBans_61 : decode cX0_renewBans 61 = .ok (.aload_n 0, 1) := by decide +kernel
theorem dX0_renewBans_62 : decode cX0_renewBans 62 = .ok (.getfield 12, 3) := by decide +kernel
theorem dX0_renewBans_65 : decode cX0_renewBans 65 = .ok (.getfield 263, 3) := by decide +kernel
theorem dX0_renewBans_68 : decode cX0_renewBans 68 = .ok (.invokestatic 280, 3) := by decide +kernel
theorem dX0_renewBans_71 : decode cX0_renewBans 71 = .ok (.return_, 1) := by decide +kernel
theorem dX0_passWeek_103 : decode cX0_passWeek 103 = .ok (.aload_n 0, 1) := by decide +kernel
theorem dX0_passWeek_104 : decode cX0_passWeek 104 = .ok (.getfield 42, 3) := by decide +kernel
theorem dX0_passWeek_107 : decode cX0_passWeek 107 = .ok (.invokevirtual 160, 3) := by decide +kernel
theorem dX2_asksBanned_0 : decode cX2_asksBanned 0 = .ok (.iconst 0, 1) := by decide +kernel
theorem dX2_asksBanned_1 : decode cX2_asksBanned 1 = .ok (.istore_n 1, 1) := by decide +kernel
theorem dX2_asksBanned_2 : decode cX2_asksBanned 2 = .ok (.iload_n 1, 1) := by decide +kernel
theorem dX2_asksBanned_3 : decode cX2_asksBanned 3 = .ok (.aload_n 0, 1) := by decide +kernel
theorem dX2_asksBanned_4 : decode cX2_asksBanned 4 = .ok (.getfield 24, 3) := by decide +kernel
theorem dX2_asksBanned_7 : decode cX2_asksBanned 7 = .ok (.if_icmp .ge 29, 3) := by decide +kernel
theorem dX2_asksBanned_10 : decode cX2_asksBanned 10 = .ok (.aload_n 0, 1) := by decide +kernel
theorem dX2_asksBanned_11 : decode cX2_asksBanned 11 = .ok (.getfield 11, 3) := by decide +kernel
theorem dX2_asksBanned_14 : decode cX2_asksBanned 14 = .ok (.iload_n 1, 1) := by decide +kernel
theorem dX2_asksBanned_15 : decode cX2_asksBanned 15 = .ok (.aaload, 1) := by decide +kernel
theorem dX2_asksBanned_16 : decode cX2_asksBanned 16 = .ok (.astore_n 2, 1) := by decide +kernel
theorem dX2_asksBanned_17 : decode cX2_asksBanned 17 = .ok (.aload_n 2, 1) := by decide +kernel
theorem dX2_asksBanned_18 : decode cX2_asksBanned 18 = .ok (.ifnull 12, 3) := by decide +kernel
theorem dX2_asksBanned_30 : decode cX2_asksBanned 30 = .ok (.iinc 1 1, 3) := by decide +kernel
theorem dX2_asksBanned_33 : decode cX2_asksBanned 33 = .ok (.goto (-31), 3) := by decide +kernel
theorem dX2_asksBanned_21 : decode cX2_asksBanned 21 = .ok (.aload_n 2, 1) := by decide +kernel
theorem dX2_asksBanned_22 : decode cX2_asksBanned 22 = .ok (.getfield 53, 3) := by decide +kernel
theorem dX2_asksBanned_25 : decode cX2_asksBanned 25 = .ok (.ifCond .eq 5, 3) := by decide +kernel
theorem dX2_asksBanned_28 : decode cX2_asksBanned 28 = .ok (.iconst 1, 1) := by decide +kernel
theorem dX2_asksBanned_29 : decode cX2_asksBanned 29 = .ok (.ireturn, 1) := by decide +kernel
theorem dX2_asksBanned_36 : decode cX2_asksBanned 36 = .ok (.iconst 0, 1) := by decide +kernel
theorem dX2_asksBanned_37 : decode cX2_asksBanned 37 = .ok (.ireturn, 1) := by decide +kernel
theorem dX0_passWeek_110 : decode cX0_passWeek 110 = .ok (.ifCond .eq 7, 3) := by decide +kernel
theorem dX0_passWeek_117 : decode cX0_passWeek 117 = .ok (.aload_n 0, 1) := by decide +kernel
theorem dX0_passWeek_118 : decode cX0_passWeek 118 = .ok (.dup, 1) := by decide +kernel
theorem dX0_passWeek_119 : decode cX0_passWeek 119 = .ok (.getfield 93, 3) := by decide +kernel
theorem dX0_passWeek_122 : decode cX0_passWeek 122 = .ok (.iconst 1, 1) := by decide +kernel
theorem dX0_passWeek_123 : decode cX0_passWeek 123 = .ok (.iadd, 1) := by decide +kernel
theorem dX0_passWeek_124 : decode cX0_passWeek 124 = .ok (.putfield 93, 3) := by decide +kernel
theorem dX0_passWeek_127 : decode cX0_passWeek 127 = .ok (.return_, 1) := by decide +kernel
theorem dX0_passWeek_10 : decode cX0_passWeek 10 = .ok (.return_, 1) := by decide +kernel
theorem dX0_settle_0 : decode cX0_settle 0 = .ok (.aload_n 0, 1) := by decide +kernel
theorem dX0_settle_1 : decode cX0_settle 1 = .ok (.getfield 21, 3) := by decide +kernel
theorem dX0_settle_4 : decode cX0_settle 4 = .ok (.getfield 124, 3) := by decide +kernel
theorem dX0_settle_7 : decode cX0_settle 7 = .ok (.iload_n 2, 1) := by decide +kernel
theorem dX0_settle_8 : decode cX0_settle 8 = .ok (.iload_n 1, 1) := by decide +kernel
theorem dX0_settle_9 : decode cX0_settle 9 = .ok (.iastore, 1) := by decide +kernel
theorem dX0_settle_10 : decode cX0_settle 10 = .ok (.aload_n 0, 1) := by decide +kernel
theorem dX0_settle_11 : decode cX0_settle 11 = .ok (.getfield 21, 3) := by decide +kernel
theorem dX0_settle_14 : decode cX0_settle 14 = .ok (.getfield 127, 3) := by decide +kernel
theorem dX0_settle_17 : decode cX0_settle 17 = .ok (.iload_n 2, 1) := by decide +kernel
theorem dX0_settle_18 : decode cX0_settle 18 = .ok (.iload_n 3, 1) := by decide +kernel
theorem dX0_settle_19 : decode cX0_settle 19 = .ok (.iastore, 1) := by decide +kernel
theorem dX0_settle_20 : decode cX0_settle 20 = .ok (.aload_n 0, 1) := by decide +kernel
theorem dX0_settle_21 : decode cX0_settle 21 = .ok (.getfield 12, 3) := by decide +kernel
theorem dX0_settle_24 : decode cX0_settle 24 = .ok (.getfield 130, 3) := by decide +kernel
theorem dX0_settle_27 : decode cX0_settle 27 = .ok (.iload_n 1, 1) := by decide +kernel
theorem dX0_settle_28 : decode cX0_settle 28 = .ok (.iconst (-1), 1) := by decide +kernel
theorem dX0_settle_29 : decode cX0_settle 29 = .ok (.iastore, 1) := by decide +kernel
theorem dX0_settle_30 : decode cX0_settle 30 = .ok (.return_, 1) := by decide +kernel
theorem dX0_tellCrops_0 : decode cX0_tellCrops 0 = .ok (.aload_n 0, 1) := by decide +kernel
theorem dX0_tellCrops_1 : decode cX0_tellCrops 1 = .ok (.iconst 1, 1) := by decide +kernel
theorem dX0_tellCrops_2 : decode cX0_tellCrops 2 = .ok (.putfield 97, 3) := by decide +kernel
theorem dX0_tellCrops_5 : decode cX0_tellCrops 5 = .ok (.aload_n 0, 1) := by decide +kernel
theorem dX0_tellCrops_6 : decode cX0_tellCrops 6 = .ok (.iload_n 1, 1) := by decide +kernel
theorem dX0_tellCrops_7 : decode cX0_tellCrops 7 = .ok (.putfield 107, 3) := by decide +kernel
theorem dX0_tellCrops_10 : decode cX0_tellCrops 10 = .ok (.aload_n 0, 1) := by decide +kernel
theorem dX0_tellCrops_11 : decode cX0_tellCrops 11 = .ok (.iload_n 2, 1) := by decide +kernel
theorem dX0_tellCrops_12 : decode cX0_tellCrops 12 = .ok (.putfield 110, 3) := by decide +kernel
theorem dX0_tellCrops_15 : decode cX0_tellCrops 15 = .ok (.return_, 1) := by decide +kernel
theorem dX10_addGuard_0 : decode cX10_addGuard 0 = .ok (.aload_n 0, 1) := by decide +kernel
theorem dX10_addGuard_1 : decode cX10_addGuard 1 = .ok (.getfield 43, 3) := by decide +kernel
theorem dX10_addGuard_4 : decode cX10_addGuard 4 = .ok (.bipush 40, 2) := by decide +kernel
theorem dX10_addGuard_6 : decode cX10_addGuard 6 = .ok (.if_icmp .lt 4, 3) := by decide +kernel
theorem dX10_addGuard_10 : decode cX10_addGuard 10 = .ok (.aload_n 0, 1) := by decide +kernel
theorem dX10_addGuard_11 : decode cX10_addGuard 11 = .ok (.getfield 30, 3) := by decide +kernel
theorem dX10_addGuard_14 : decode cX10_addGuard 14 = .ok (.aload_n 0, 1) := by decide +kernel
theorem dX10_addGuard_15 : decode cX10_addGuard 15 = .ok (.getfield 43, 3) := by decide +kernel
theorem dX10_addGuard_18 : decode cX10_addGuard 18 = .ok (.iload_n 1, 1) := by decide +kernel
theorem dX10_addGuard_19 : decode cX10_addGuard 19 = .ok (.iastore, 1) := by decide +kernel
theorem dX10_addGuard_20 : decode cX10_addGuard 20 = .ok (.aload_n 0, 1) := by decide +kernel
theorem dX10_addGuard_21 : decode cX10_addGuard 21 = .ok (.getfield 33, 3) := by decide +kernel
theorem dX10_addGuard_24 : decode cX10_addGuard 24 = .ok (.aload_n 0, 1) := by decide +kernel
theorem dX10_addGuard_25 : decode cX10_addGuard 25 = .ok (.getfield 43, 3) := by decide +kernel
theorem dX10_addGuard_28 : decode cX10_addGuard 28 = .ok (.iload_n 2, 1) := by decide +kernel
theorem dX10_addGuard_29 : decode cX10_addGuard 29 = .ok (.iastore, 1) := by decide +kernel
theorem dX10_addGuard_30 : decode cX10_addGuard 30 = .ok (.aload_n 0, 1) := by decide +kernel
theorem dX10_addGuard_31 : decode cX10_addGuard 31 = .ok (.getfield 36, 3) := by decide +kernel
theorem dX10_addGuard_34 : decode cX10_addGuard 34 = .ok (.aload_n 0, 1) := by decide +kernel
theorem dX10_addGuard_35 : decode cX10_addGuard 35 = .ok (.getfield 43, 3) := by decide +kernel
theorem dX10_addGuard_38 : decode cX10_addGuard 38 = .ok (.iload_n 3, 1) := by decide +kernel
theorem dX10_addGuard_39 : decode cX10_addGuard 39 = .ok (.iastore, 1) := by decide +kernel
theorem dX10_addGuard_40 : decode cX10_addGuard 40 = .ok (.aload_n 0, 1) := by decide +kernel
theorem dX10_addGuard_41 : decode cX10_addGuard 41 = .ok (.dup, 1) := by decide +kernel
theorem dX10_addGuard_42 : decode cX10_addGuard 42 = .ok (.getfield 43, 3) := by decide +kernel
theorem dX10_addGuard_45 : decode cX10_addGuard 45 = .ok (.iconst 1, 1) := by decide +kernel
theorem dX10_addGuard_46 : decode cX10_addGuard 46 = .ok (.iadd, 1) := by decide +kernel
theorem dX10_addGuard_47 : decode cX10_addGuard 47 = .ok (.putfield 43, 3) := by decide +kernel
theorem dX10_addGuard_50 : decode cX10_addGuard 50 = .ok (.return_, 1) := by decide +kernel
theorem dX10_addGuard_9 : decode cX10_addGuard 9 = .ok (.return_, 1) := by decide +kernel
theorem dX10_leftOf_0 : decode cX10_leftOf 0 = .ok (.aload_n 0, 1) := by decide +kernel
theorem dX10_leftOf_1 : decode cX10_leftOf 1 = .ok (.iload_n 1, 1) := by decide +kernel
theorem dX10_leftOf_2 : decode cX10_leftOf 2 = .ok (.invokevirtual 46, 3) := by decide +kernel
theorem dX10_leftOf_5 : decode cX10_leftOf 5 = .ok (.istore_n 2, 1) := by decide +kernel
theorem dX10_leftOf_6 : decode cX10_leftOf 6 = .ok (.iload_n 2, 1) := by decide +kernel
theorem dX10_leftOf_7 : decode cX10_leftOf 7 = .ok (.iconst (-1), 1) := by decide +kernel
theorem dX10_leftOf_8 : decode cX10_leftOf 8 = .ok (.if_icmp .ne 7, 3) := by decide +kernel
theorem dX10_leftOf_15 : decode cX10_leftOf 15 = .ok (.aload_n 0, 1) := by decide +kernel
theorem dX10_leftOf_16 : decode cX10_leftOf 16 = .ok (.getfield 21, 3) := by decide +kernel
theorem dX10_leftOf_19 : decode cX10_leftOf 19 = .ok (.iload_n 2, 1) := by decide +kernel
theorem dX10_leftOf_20 : decode cX10_leftOf 20 = .ok (.iaload, 1) := by decide +kernel
theorem dX10_leftOf_11 : decode cX10_leftOf 11 = .ok (.iconst (-1), 1) := by decide +kernel
theorem dX10_leftOf_12 : decode cX10_leftOf 12 = .ok (.goto 9, 3) := by decide +kernel
theorem dX10_leftOf_21 : decode cX10_leftOf 21 = .ok (.ireturn, 1) := by decide +kernel
theorem dX10_stepOf_0 : decode cX10_stepOf 0 = .ok (.aload_n 0, 1) := by decide +kernel
theorem dX10_stepOf_1 : decode cX10_stepOf 1 = .ok (.iload_n 1, 1) := by decide +kernel
theorem dX10_stepOf_2 : decode cX10_stepOf 2 = .ok (.invokevirtual 46, 3) := by decide +kernel
theorem dX10_stepOf_5 : decode cX10_stepOf 5 = .ok (.istore_n 2, 1) := by decide +kernel
theorem dX10_stepOf_6 : decode cX10_stepOf 6 = .ok (.iload_n 2, 1) := by decide +kernel
theorem dX10_stepOf_7 : decode cX10_stepOf 7 = .ok (.iconst (-1), 1) := by decide +kernel
theorem dX10_stepOf_8 : decode cX10_stepOf 8 = .ok (.if_icmp .ne 7, 3) := by decide +kernel
theorem dX10_stepOf_15 : decode cX10_stepOf 15 = .ok (.aload_n 0, 1) := by decide +kernel
theorem dX10_stepOf_16 : decode cX10_stepOf 16 = .ok (.getfield 18, 3) := by decide +kernel
theorem dX10_stepOf_19 : decode cX10_stepOf 19 = .ok (.iload_n 2, 1) := by decide +kernel
theorem dX10_stepOf_20 : decode cX10_stepOf 20 = .ok (.iaload, 1) := by decide +kernel
theorem dX10_stepOf_11 : decode cX10_stepOf 11 = .ok (.iconst (-1), 1) := by decide +kernel
theorem dX10_stepOf_12 : decode cX10_stepOf 12 = .ok (.goto 9, 3) := by decide +kernel
theorem dX10_stepOf_21 : decode cX10_stepOf 21 = .ok (.ireturn, 1) := by decide +kernel
theorem dX1_addEstate_0 : decode cX1_addEstate 0 = .ok (.aload_n 0, 1) := by decide +kernel
theorem dX1_addEstate_1 : decode cX1_addEstate 1 = .ok (.getfield 49, 3) := by decide +kernel
theorem dX1_addEstate_4 : decode cX1_addEstate 4 = .ok (.bipush 8, 2) := by decide +kernel
theorem dX1_addEstate_6 : decode cX1_addEstate 6 = .ok (.if_icmp .lt 5, 3) := by decide +kernel
theorem dX1_addEstate_11 : decode cX1_addEstate 11 = .ok (.aload_n 0, 1) := by decide +kernel
theorem dX1_addEstate_12 : decode cX1_addEstate 12 = .ok (.getfield 49, 3) := by decide +kernel
theorem dX1_addEstate_15 : decode cX1_addEstate 15 = .ok (.istore_n 3, 1) := by decide +kernel
theorem dX1_addEstate_16 : decode cX1_addEstate 16 = .ok (.aload_n 0, 1) := by decide +kernel
theorem dX1_addEstate_17 : decode cX1_addEstate 17 = .ok (.getfield 33, 3) := by decide +kernel
theorem dX1_addEstate_20 : decode cX1_addEstate 20 = .ok (.iload_n 3, 1) := by decide +kernel
theorem dX1_addEstate_21 : decode cX1_addEstate 21 = .ok (.iload_n 1, 1) := by decide +kernel
theorem dX1_addEstate_22 : decode cX1_addEstate 22 = .ok (.iastore, 1) := by decide +kernel
theorem dX1_addEstate_23 : decode cX1_addEstate 23 = .ok (.aload_n 0, 1) := by decide +kernel
theorem dX1_addEstate_24 : decode cX1_addEstate 24 = .ok (.getfield 36, 3) := by decide +kernel
theorem dX1_addEstate_27 : decode cX1_addEstate 27 = .ok (.iload_n 3, 1) := by decide +kernel
theorem dX1_addEstate_28 : decode cX1_addEstate 28 = .ok (.iload_n 2, 1) := by decide +kernel
theorem dX1_addEstate_29 : decode cX1_addEstate 29 = .ok (.iastore, 1) := by decide +kernel
theorem dX1_addEstate_30 : decode cX1_addEstate 30 = .ok (.aload_n 0, 1) := by decide +kernel
theorem dX1_addEstate_31 : decode cX1_addEstate 31 = .ok (.getfield 39, 3) := by decide +kernel
theorem dX1_addEstate_34 : decode cX1_addEstate 34 = .ok (.iload_n 3, 1) := by decide +kernel
theorem dX1_addEstate_35 : decode cX1_addEstate 35 = .ok (.iconst (-1), 1) := by decide +kernel
theorem dX1_addEstate_36 : decode cX1_addEstate 36 = .ok (.iastore, 1) := by decide +kernel
theorem dX1_addEstate_37 : decode cX1_addEstate 37 = .ok (.aload_n 0, 1) := by decide +kernel
theorem dX1_addEstate_38 : decode cX1_addEstate 38 = .ok (.dup, 1) := by decide +kernel
theorem dX1_addEstate_39 : decode cX1_addEstate 39 = .ok (.getfield 49, 3) := by decide +kernel
theorem dX1_addEstate_42 : decode cX1_addEstate 42 = .ok (.iconst 1, 1) := by decide +kernel
theorem dX1_addEstate_43 : decode cX1_addEstate 43 = .ok (.iadd, 1) := by decide +kernel
theorem dX1_addEstate_44 : decode cX1_addEstate 44 = .ok (.putfield 49, 3) := by decide +kernel
theorem dX1_addEstate_47 : decode cX1_addEstate 47 = .ok (.iload_n 3, 1) := by decide +kernel
theorem dX1_addEstate_48 : decode cX1_addEstate 48 = .ok (.ireturn, 1) := by decide +kernel
theorem dX1_addEstate_9 : decode cX1_addEstate 9 = .ok (.iconst (-1), 1) := by decide +kernel
theorem dX1_addEstate_10 : decode cX1_addEstate 10 = .ok (.ireturn, 1) := by decide +kernel
theorem dX1_addField_0 : decode cX1_addField 0 = .ok (.aload_n 0, 1) := by decide +kernel
theorem dX1_addField_1 : decode cX1_addField 1 = .ok (.getfield 46, 3) := by decide +kernel
theorem dX1_addField_4 : decode cX1_addField 4 = .ok (.bipush 40, 2) := by decide +kernel
theorem dX1_addField_6 : decode cX1_addField 6 = .ok (.if_icmp .lt 5, 3) := by decide +kernel
theorem dX1_addField_11 : decode cX1_addField 11 = .ok (.aload_n 0, 1) := by decide +kernel
theorem dX1_addField_12 : decode cX1_addField 12 = .ok (.getfield 46, 3) := by decide +kernel
theorem dX1_addField_15 : decode cX1_addField 15 = .ok (.istore 4, 2) := by decide +kernel
theorem dX1_addField_17 : decode cX1_addField 17 = .ok (.aload_n 0, 1) := by decide +kernel
theorem dX1_addField_18 : decode cX1_addField 18 = .ok (.getfield 9, 3) := by decide +kernel
theorem dX1_addField_21 : decode cX1_addField 21 = .ok (.iload 4, 2) := by decide +kernel
theorem dX1_addField_23 : decode cX1_addField 23 = .ok (.iload_n 1, 1) := by decide +kernel
theorem dX1_addField_24 : decode cX1_addField 24 = .ok (.iastore, 1) := by decide +kernel
theorem dX1_addField_25 : decode cX1_addField 25 = .ok (.aload_n 0, 1) := by decide +kernel
theorem dX1_addField_26 : decode cX1_addField 26 = .ok (.getfield 15, 3) := by decide +kernel
theorem dX1_addField_29 : decode cX1_addField 29 = .ok (.iload 4, 2) := by decide +kernel
theorem dX1_addField_31 : decode cX1_addField 31 = .ok (.iload_n 2, 1) := by decide +kernel
theorem dX1_addField_32 : decode cX1_addField 32 = .ok (.iastore, 1) := by decide +kernel
theorem dX1_addField_33 : decode cX1_addField 33 = .ok (.aload_n 0, 1) := by decide +kernel
theorem dX1_addField_34 : decode cX1_addField 34 = .ok (.getfield 18, 3) := by decide +kernel
theorem dX1_addField_37 : decode cX1_addField 37 = .ok (.iload 4, 2) := by decide +kernel
theorem dX1_addField_39 : decode cX1_addField 39 = .ok (.iload_n 3, 1) := by decide +kernel
theorem dX1_addField_40 : decode cX1_addField 40 = .ok (.iastore, 1) := by decide +kernel
theorem dX1_addField_41 : decode cX1_addField 41 = .ok (.aload_n 0, 1) := by decide +kernel
theorem dX1_addField_42 : decode cX1_addField 42 = .ok (.getfield 21, 3) := by decide +kernel
theorem dX1_addField_45 : decode cX1_addField 45 = .ok (.iload 4, 2) := by decide +kernel
theorem dX1_addField_47 : decode cX1_addField 47 = .ok (.iconst (-1), 1) := by decide +kernel
theorem dX1_addField_48 : decode cX1_addField 48 = .ok (.iastore, 1) := by decide +kernel
theorem dX1_addField_49 : decode cX1_addField 49 = .ok (.aload_n 0, 1) := by decide +kernel
theorem dX1_addField_50 : decode cX1_addField 50 = .ok (.getfield 24, 3) := by decide +kernel
theorem dX1_addField_53 : decode cX1_addField 53 = .ok (.iload 4, 2) := by decide +kernel
theorem dX1_addField_55 : decode cX1_addField 55 = .ok (.iconst 0, 1) := by decide +kernel
theorem dX1_addField_56 : decode cX1_addField 56 = .ok (.iastore, 1) := by decide +kernel
theorem dX1_addField_57 : decode cX1_addField 57 = .ok (.aload_n 0, 1) := by decide +kernel
theorem dX1_addField_58 : decode cX1_addField 58 = .ok (.getfield 27, 3) := by decide +kernel
theorem dX1_addField_61 : decode cX1_addField 61 = .ok (.iload 4, 2) := by decide +kernel
theorem dX1_addField_63 : decode cX1_addField 63 = .ok (.iconst 0, 1) := by decide +kernel
theorem dX1_addField_64 : decode cX1_addField 64 = .ok (.iastore, 1) := by decide +kernel
theorem dX1_addField_65 : decode cX1_addField 65 = .ok (.aload_n 0, 1) := by decide +kernel
theorem dX1_addField_66 : decode cX1_addField 66 = .ok (.getfield 30, 3) := by decide +kernel
theorem dX1_addField_69 : decode cX1_addField 69 = .ok (.iload 4, 2) := by decide +kernel
theorem dX1_addField_71 : decode cX1_addField 71 = .ok (.iconst 0, 1) := by decide +kernel
theorem dX1_addField_72 : decode cX1_addField 72 = .ok (.iastore, 1) := by decide +kernel
theorem dX1_addField_73 : decode cX1_addField 73 = .ok (.aload_n 0, 1) := by decide +kernel
theorem dX1_addField_74 : decode cX1_addField 74 = .ok (.dup, 1) := by decide +kernel
theorem dX1_addField_75 : decode cX1_addField 75 = .ok (.getfield 46, 3) := by decide +kernel
theorem dX1_addField_78 : decode cX1_addField 78 = .ok (.iconst 1, 1) := by decide +kernel
theorem dX1_addField_79 : decode cX1_addField 79 = .ok (.iadd, 1) := by decide +kernel
theorem dX1_addField_80 : decode cX1_addField 80 = .ok (.putfield 46, 3) := by decide +kernel
theorem dX1_addField_83 : decode cX1_addField 83 = .ok (.iload 4, 2) := by decide +kernel
theorem dX1_addField_85 : decode cX1_addField 85 = .ok (.ireturn, 1) := by decide +kernel
theorem dX1_addField_9 : decode cX1_addField 9 = .ok (.iconst (-1), 1) := by decide +kernel
theorem dX1_addField_10 : decode cX1_addField 10 = .ok (.ireturn, 1) := by decide +kernel
theorem dX1_findAltered_0 : decode cX1_findAltered 0 = .ok (.aload_n 0, 1) := by decide +kernel
theorem dX1_findAltered_1 : decode cX1_findAltered 1 = .ok (.getfield 42, 3) := by decide +kernel
theorem dX1_findAltered_4 : decode cX1_findAltered 4 = .ok (.iconst (-1), 1) := by decide +kernel
theorem dX1_findAltered_5 : decode cX1_findAltered 5 = .ok (.if_icmp .ne 6, 3) := by decide +kernel
theorem dX1_findAltered_11 : decode cX1_findAltered 11 = .ok (.aload_n 0, 1) := by decide +kernel
theorem dX1_findAltered_12 : decode cX1_findAltered 12 = .ok (.getfield 46, 3) := by decide +kernel
theorem dX1_findAltered_15 : decode cX1_findAltered 15 = .ok (.aload_n 0, 1) := by decide +kernel
theorem dX1_findAltered_16 : decode cX1_findAltered 16 = .ok (.getfield 42, 3) := by decide +kernel
theorem dX1_findAltered_19 : decode cX1_findAltered 19 = .ok (.if_icmp .le 6, 3) := by decide +kernel
theorem dX1_findAltered_25 : decode cX1_findAltered 25 = .ok (.aload_n 0, 1) := by decide +kernel
theorem dX1_findAltered_26 : decode cX1_findAltered 26 = .ok (.invokevirtual 58, 3) := by decide +kernel
theorem dX1_sumOfRents_0 : decode cX1_sumOfRents 0 = .ok (.lconst 0, 1) := by decide +kernel
theorem dX1_sumOfRents_1 : decode cX1_sumOfRents 1 = .ok (.lstore_n 1, 1) := by decide +kernel
theorem dX1_sumOfRents_2 : decode cX1_sumOfRents 2 = .ok (.iconst 0, 1) := by decide +kernel
theorem dX1_sumOfRents_3 : decode cX1_sumOfRents 3 = .ok (.istore_n 3, 1) := by decide +kernel
theorem dX1_sumOfRents_4 : decode cX1_sumOfRents 4 = .ok (.iload_n 3, 1) := by decide +kernel
theorem dX1_sumOfRents_5 : decode cX1_sumOfRents 5 = .ok (.aload_n 0, 1) := by decide +kernel
theorem dX1_sumOfRents_6 : decode cX1_sumOfRents 6 = .ok (.getfield 46, 3) := by decide +kernel
theorem dX1_sumOfRents_9 : decode cX1_sumOfRents 9 = .ok (.if_icmp .ge 19, 3) := by decide +kernel
theorem dX1_sumOfRents_12 : decode cX1_sumOfRents 12 = .ok (.lload_n 1, 1) := by decide +kernel
theorem dX1_sumOfRents_13 : decode cX1_sumOfRents 13 = .ok (.aload_n 0, 1) := by decide +kernel
theorem dX1_sumOfRents_14 : decode cX1_sumOfRents 14 = .ok (.getfield 18, 3) := by decide +kernel
theorem dX1_sumOfRents_17 : decode cX1_sumOfRents 17 = .ok (.iload_n 3, 1) := by decide +kernel
theorem dX1_sumOfRents_18 : decode cX1_sumOfRents 18 = .ok (.iaload, 1) := by decide +kernel
theorem dX1_sumOfRents_19 : decode cX1_sumOfRents 19 = .ok (.i2l, 1) := by decide +kernel
theorem dX1_sumOfRents_20 : decode cX1_sumOfRents 20 = .ok (.ladd, 1) := by decide +kernel
theorem dX1_sumOfRents_21 : decode cX1_sumOfRents 21 = .ok (.lstore_n 1, 1) := by decide +kernel
theorem dX1_sumOfRents_22 : decode cX1_sumOfRents 22 = .ok (.iinc 3 1, 3) := by decide +kernel
theorem dX1_sumOfRents_25 : decode cX1_sumOfRents 25 = .ok (.goto (-21), 3) := by decide +kernel
theorem dX1_sumOfRents_28 : decode cX1_sumOfRents 28 = .ok (.lload_n 1, 1) := by decide +kernel
theorem dX1_sumOfRents_29 : decode cX1_sumOfRents 29 = .ok (.lreturn, 1) := by decide +kernel
theorem dX1_findAltered_29 : decode cX1_findAltered 29 = .ok (.aload_n 0, 1) := by decide +kernel
theorem dX1_findAltered_30 : decode cX1_findAltered 30 = .ok (.getfield 62, 3) := by decide +kernel
theorem dX1_findAltered_33 : decode cX1_findAltered 33 = .ok (.lsub, 1) := by decide +kernel
theorem dX1_findAltered_34 : decode cX1_findAltered 34 = .ok (.lstore_n 1, 1) := by decide +kernel
theorem dX1_findAltered_35 : decode cX1_findAltered 35 = .ok (.aload_n 0, 1) := by decide +kernel
theorem dX1_findAltered_36 : decode cX1_findAltered 36 = .ok (.invokevirtual 66, 3) := by decide +kernel
theorem dX1_sumByPlace_0 : decode cX1_sumByPlace 0 = .ok (.lconst 0, 1) := by decide +kernel
theorem dX1_sumByPlace_1 : decode cX1_sumByPlace 1 = .ok (.lstore_n 1, 1) := by decide +kernel
theorem dX1_sumByPlace_2 : decode cX1_sumByPlace 2 = .ok (.iconst 0, 1) := by decide +kernel
theorem dX1_sumByPlace_3 : decode cX1_sumByPlace 3 = .ok (.istore_n 3, 1) := by decide +kernel
theorem dX1_sumByPlace_4 : decode cX1_sumByPlace 4 = .ok (.iload_n 3, 1) := by decide +kernel
theorem dX1_sumByPlace_5 : decode cX1_sumByPlace 5 = .ok (.aload_n 0, 1) := by decide +kernel
theorem dX1_sumByPlace_6 : decode cX1_sumByPlace 6 = .ok (.getfield 46, 3) := by decide +kernel
theorem dX1_sumByPlace_9 : decode cX1_sumByPlace 9 = .ok (.if_icmp .ge 24, 3) := by decide +kernel
theorem dX1_sumByPlace_12 : decode cX1_sumByPlace 12 = .ok (.lload_n 1, 1) := by decide +kernel
theorem dX1_sumByPlace_13 : decode cX1_sumByPlace 13 = .ok (.aload_n 0, 1) := by decide +kernel
theorem dX1_sumByPlace_14 : decode cX1_sumByPlace 14 = .ok (.getfield 18, 3) := by decide +kernel
theorem dX1_sumByPlace_17 : decode cX1_sumByPlace 17 = .ok (.iload_n 3, 1) := by decide +kernel
theorem dX1_sumByPlace_18 : decode cX1_sumByPlace 18 = .ok (.iaload, 1) := by decide +kernel
theorem dX1_sumByPlace_19 : decode cX1_sumByPlace 19 = .ok (.i2l, 1) := by decide +kernel
theorem dX1_sumByPlace_20 : decode cX1_sumByPlace 20 = .ok (.iload_n 3, 1) := by decide +kernel
theorem dX1_sumByPlace_21 : decode cX1_sumByPlace 21 = .ok (.iconst 1, 1) := by decide +kernel
theorem dX1_sumByPlace_22 : decode cX1_sumByPlace 22 = .ok (.iadd, 1) := by decide +kernel
theorem dX1_sumByPlace_23 : decode cX1_sumByPlace 23 = .ok (.i2l, 1) := by decide +kernel
theorem dX1_sumByPlace_24 : decode cX1_sumByPlace 24 = .ok (.lmul, 1) := by decide +kernel
theorem dX1_sumByPlace_25 : decode cX1_sumByPlace 25 = .ok (.ladd, 1) := by decide +kernel
theorem dX1_sumByPlace_26 : decode cX1_sumByPlace 26 = .ok (.lstore_n 1, 1) := by decide +kernel
theorem dX1_sumByPlace_27 : decode cX1_sumByPlace 27 = .ok (.iinc 3 1, 3) := by decide +kernel
theorem dX1_sumByPlace_30 : decode cX1_sumByPlace 30 = .ok (.goto (-26), 3) := by decide +kernel
theorem dX1_sumByPlace_33 : decode cX1_sumByPlace 33 = .ok (.lload_n 1, 1) := by decide +kernel
theorem dX1_sumByPlace_34 : decode cX1_sumByPlace 34 = .ok (.lreturn, 1) := by decide +kernel
theorem dX1_findAltered_39 : decode cX1_findAltered 39 = .ok (.aload_n 0, 1) := by decide +kernel
theorem dX1_findAltered_40 : decode cX1_findAltered 40 = .ok (.getfield 69, 3) := by decide +kernel
theorem dX1_findAltered_43 : decode cX1_findAltered 43 = .ok (.lsub, 1) := by decide +kernel
theorem dX1_findAltered_44 : decode cX1_findAltered 44 = .ok (.lstore_n 3, 1) := by decide +kernel
theorem dX1_findAltered_45 : decode cX1_findAltered 45 = .ok (.lload_n 1, 1) := by decide +kernel
theorem dX1_findAltered_46 : decode cX1_findAltered 46 = .ok (.lconst 0, 1) := by decide +kernel
theorem dX1_findAltered_47 : decode cX1_findAltered 47 = .ok (.lcmp, 1) := by decide +kernel
theorem dX1_findAltered_48 : decode cX1_findAltered 48 = .ok (.ifCond .ne 11, 3) := by decide +kernel
theorem dX1_findAltered_59 : decode cX1_findAltered 59 = .ok (.iconst 0, 1) := by decide +kernel
theorem dX1_findAltered_60 : decode cX1_findAltered 60 = .ok (.istore 5, 2) := by decide +kernel
theorem dX1_findAltered_62 : decode cX1_findAltered 62 = .ok (.iload 5, 2) := by decide +kernel
theorem dX1_findAltered_64 : decode cX1_findAltered 64 = .ok (.aload_n 0, 1) := by decide +kernel
theorem dX1_findAltered_65 : decode cX1_findAltered 65 = .ok (.getfield 46, 3) := by decide +kernel
theorem dX1_findAltered_68 : decode cX1_findAltered 68 = .ok (.if_icmp .ge 24, 3) := by decide +kernel
theorem dX1_findAltered_71 : decode cX1_findAltered 71 = .ok (.lload_n 1, 1) := by decide +kernel
theorem dX1_findAltered_72 : decode cX1_findAltered 72 = .ok (.iload 5, 2) := by decide +kernel
theorem dX1_findAltered_74 : decode cX1_findAltered 74 = .ok (.iconst 1, 1) := by decide +kernel
theorem dX1_findAltered_75 : decode cX1_findAltered 75 = .ok (.iadd, 1) := by decide +kernel
theorem dX1_findAltered_76 : decode cX1_findAltered 76 = .ok (.i2l, 1) := by decide +kernel
theorem dX1_findAltered_77 : decode cX1_findAltered 77 = .ok (.lmul, 1) := by decide +kernel
theorem dX1_findAltered_78 : decode cX1_findAltered 78 = .ok (.lload_n 3, 1) := by decide +kernel
theorem dX1_findAltered_79 : decode cX1_findAltered 79 = .ok (.lcmp, 1) := by decide +kernel
theorem dX1_findAltered_80 : decode cX1_findAltered 80 = .ok (.ifCond .ne 6, 3) := by decide +kernel
theorem dX1_findAltered_86 : decode cX1_findAltered 86 = .ok (.iinc 5 1, 3) := by decide +kernel
theorem dX1_findAltered_89 : decode cX1_findAltered 89 = .ok (.goto (-27), 3) := by decide +kernel
theorem dX1_findAltered_83 : decode cX1_findAltered 83 = .ok (.iload 5, 2) := by decide +kernel
theorem dX1_findAltered_85 : decode cX1_findAltered 85 = .ok (.ireturn, 1) := by decide +kernel
theorem dX1_findAltered_92 : decode cX1_findAltered 92 = .ok (.bipush (-2), 2) := by decide +kernel
theorem dX1_findAltered_94 : decode cX1_findAltered 94 = .ok (.ireturn, 1) := by decide +kernel
theorem dX1_findAltered_51 : decode cX1_findAltered 51 = .ok (.lload_n 3, 1) := by decide +kernel
theorem dX1_findAltered_52 : decode cX1_findAltered 52 = .ok (.lconst 0, 1) := by decide +kernel
theorem dX1_findAltered_53 : decode cX1_findAltered 53 = .ok (.lcmp, 1) := by decide +kernel
theorem dX1_findAltered_54 : decode cX1_findAltered 54 = .ok (.ifCond .ne 5, 3) := by decide +kernel
theorem dX1_findAltered_57 : decode cX1_findAltered 57 = .ok (.iconst (-1), 1) := by decide +kernel
theorem dX1_findAltered_58 : decode cX1_findAltered 58 = .ok (.ireturn, 1) := by decide +kernel
theorem dX1_findAltered_22 : decode cX1_findAltered 22 = .ok (.bipush (-2), 2) := by decide +kernel
theorem dX1_findAltered_24 : decode cX1_findAltered 24 = .ok (.ireturn, 1) := by decide +kernel
theorem dX1_findAltered_8 : decode cX1_findAltered 8 = .ok (.bipush (-3), 2) := by decide +kernel
theorem dX1_findAltered_10 : decode cX1_findAltered 10 = .ok (.ireturn, 1) := by decide +kernel
theorem dX1_hasEstate_0 : decode cX1_hasEstate 0 = .ok (.iload_n 1, 1) := by decide +kernel
theorem dX1_hasEstate_1 : decode cX1_hasEstate 1 = .ok (.ifCond .lt 15, 3) := by decide +kernel
theorem dX1_hasEstate_16 : decode cX1_hasEstate 16 = .ok (.iconst 0, 1) := by decide +kernel
theorem dX1_hasEstate_17 : decode cX1_hasEstate 17 = .ok (.ireturn, 1) := by decide +kernel
theorem dX1_hasEstate_4 : decode cX1_hasEstate 4 = .ok (.iload_n 1, 1) := by decide +kernel
theorem dX1_hasEstate_5 : decode cX1_hasEstate 5 = .ok (.aload_n 0, 1) := by decide +kernel
theorem dX1_hasEstate_6 : decode cX1_hasEstate 6 = .ok (.getfield 49, 3) := by decide +kernel
theorem dX1_hasEstate_9 : decode cX1_hasEstate 9 = .ok (.if_icmp .ge 7, 3) := by decide +kernel
theorem dX1_hasEstate_12 : decode cX1_hasEstate 12 = .ok (.iconst 1, 1) := by decide +kernel
theorem dX1_hasEstate_13 : decode cX1_hasEstate 13 = .ok (.goto 4, 3) := by decide +kernel
theorem dX1_keepSums_0 : decode cX1_keepSums 0 = .ok (.aload_n 0, 1) := by decide +kernel
theorem dX1_keepSums_1 : decode cX1_keepSums 1 = .ok (.aload_n 0, 1) := by decide +kernel
theorem dX1_keepSums_2 : decode cX1_keepSums 2 = .ok (.getfield 46, 3) := by decide +kernel
theorem dX1_keepSums_5 : decode cX1_keepSums 5 = .ok (.putfield 42, 3) := by decide +kernel
theorem dX1_keepSums_8 : decode cX1_keepSums 8 = .ok (.aload_n 0, 1) := by decide +kernel
theorem dX1_keepSums_9 : decode cX1_keepSums 9 = .ok (.aload_n 0, 1) := by decide +kernel
theorem dX1_keepSums_10 : decode cX1_keepSums 10 = .ok (.invokevirtual 58, 3) := by decide +kernel
theorem dX1_keepSums_13 : decode cX1_keepSums 13 = .ok (.putfield 62, 3) := by decide +kernel
theorem dX1_keepSums_16 : decode cX1_keepSums 16 = .ok (.aload_n 0, 1) := by decide +kernel
theorem dX1_keepSums_17 : decode cX1_keepSums 17 = .ok (.aload_n 0, 1) := by decide +kernel
theorem dX1_keepSums_18 : decode cX1_keepSums 18 = .ok (.invokevirtual 66, 3) := by decide +kernel
theorem dX1_keepSums_21 : decode cX1_keepSums 21 = .ok (.putfield 69, 3) := by decide +kernel
theorem dX1_keepSums_24 : decode cX1_keepSums 24 = .ok (.return_, 1) := by decide +kernel
theorem dX2_add_0 : decode cX2_add 0 = .ok (.aload_n 0, 1) := by decide +kernel
theorem dX2_add_1 : decode cX2_add 1 = .ok (.getfield 24, 3) := by decide +kernel
theorem dX2_add_4 : decode cX2_add 4 = .ok (.bipush 20, 2) := by decide +kernel
theorem dX2_add_6 : decode cX2_add 6 = .ok (.if_icmp .lt 5, 3) := by decide +kernel
theorem dX2_add_11 : decode cX2_add 11 = .ok (.aload_n 0, 1) := by decide +kernel
theorem dX2_add_12 : decode cX2_add 12 = .ok (.getfield 11, 3) := by decide +kernel
theorem dX2_add_15 : decode cX2_add 15 = .ok (.aload_n 0, 1) := by decide +kernel
theorem dX2_add_16 : decode cX2_add 16 = .ok (.getfield 24, 3) := by decide +kernel
theorem dX2_add_19 : decode cX2_add 19 = .ok (.aload_n 1, 1) := by decide +kernel
theorem dX2_add_20 : decode cX2_add 20 = .ok (.aastore, 1) := by decide +kernel
theorem dX2_copyFrom_0 : decode cX2_copyFrom 0 = .ok (.aload_n 0, 1) := by decide +kernel
theorem dX2_copyFrom_1 : decode cX2_copyFrom 1 = .ok (.aload_n 1, 1) := by decide +kernel
theorem dX2_copyFrom_2 : decode cX2_copyFrom 2 = .ok (.getfield 24, 3) := by decide +kernel
theorem dX2_copyFrom_5 : decode cX2_copyFrom 5 = .ok (.putfield 24, 3) := by decide +kernel
theorem dX2_copyFrom_8 : decode cX2_copyFrom 8 = .ok (.iconst 0, 1) := by decide +kernel
theorem dX2_copyFrom_9 : decode cX2_copyFrom 9 = .ok (.istore_n 2, 1) := by decide +kernel
theorem dX2_copyFrom_10 : decode cX2_copyFrom 10 = .ok (.iload_n 2, 1) := by decide +kernel
theorem dX2_copyFrom_11 : decode cX2_copyFrom 11 = .ok (.bipush 20, 2) := by decide +kernel
theorem dX2_copyFrom_13 : decode cX2_copyFrom 13 = .ok (.if_icmp .ge 21, 3) := by decide +kernel
theorem dX2_copyFrom_16 : decode cX2_copyFrom 16 = .ok (.aload_n 0, 1) := by decide +kernel
theorem dX2_copyFrom_17 : decode cX2_copyFrom 17 = .ok (.getfield 11, 3) := by decide +kernel
theorem dX2_copyFrom_20 : decode cX2_copyFrom 20 = .ok (.iload_n 2, 1) := by decide +kernel
theorem dX2_copyFrom_21 : decode cX2_copyFrom 21 = .ok (.aload_n 1, 1) := by decide +kernel
theorem dX2_copyFrom_22 : decode cX2_copyFrom 22 = .ok (.getfield 11, 3) := by decide +kernel
theorem dX2_copyFrom_25 : decode cX2_copyFrom 25 = .ok (.iload_n 2, 1) := by decide +kernel
theorem dX2_copyFrom_26 : decode cX2_copyFrom 26 = .ok (.aaload, 1) := by decide +kernel
theorem dX2_copyFrom_27 : decode cX2_copyFrom 27 = .ok (.aastore, 1) := by decide +kernel
theorem dX2_has_0 : decode cX2_has 0 = .ok (.iload_n 1, 1) := by decide +kernel
theorem dX2_has_1 : decode cX2_has 1 = .ok (.ifCond .lt 11, 3) := by decide +kernel
theorem dX2_has_12 : decode cX2_has 12 = .ok (.iconst 0, 1) := by decide +kernel
theorem dX2_has_13 : decode cX2_has 13 = .ok (.ireturn, 1) := by decide +kernel
theorem dX2_has_4 : decode cX2_has 4 = .ok (.iload_n 1, 1) := by decide +kernel
theorem dX2_has_5 : decode cX2_has 5 = .ok (.aload_n 0, 1) := by decide +kernel
theorem dX2_has_6 : decode cX2_has 6 = .ok (.getfield 24, 3) := by decide +kernel
theorem dX2_has_9 : decode cX2_has 9 = .ok (.if_icmp .lt 5, 3) := by decide +kernel
theorem dX2_has_14 : decode cX2_has 14 = .ok (.aload_n 0, 1) := by decide +kernel
theorem dX2_has_15 : decode cX2_has 15 = .ok (.getfield 11, 3) := by decide +kernel
theorem dX2_has_18 : decode cX2_has 18 = .ok (.iload_n 1, 1) := by decide +kernel
theorem dX2_has_19 : decode cX2_has 19 = .ok (.aaload, 1) := by decide +kernel
theorem dX2_has_20 : decode cX2_has 20 = .ok (.astore_n 3, 1) := by decide +kernel
theorem dX2_has_21 : decode cX2_has 21 = .ok (.aload_n 3, 1) := by decide +kernel
theorem dX2_has_22 : decode cX2_has 22 = .ok (.ifnull 19, 3) := by decide +kernel
theorem dX2_has_41 : decode cX2_has 41 = .ok (.iconst 0, 1) := by decide +kernel
theorem dX2_has_42 : decode cX2_has 42 = .ok (.ireturn, 1) := by decide +kernel
theorem dX2_has_25 : decode cX2_has 25 = .ok (.iload_n 2, 1) := by decide +kernel
theorem dX2_has_26 : decode cX2_has 26 = .ok (.ifCond .lt 15, 3) := by decide +kernel
theorem dX2_has_29 : decode cX2_has 29 = .ok (.iload_n 2, 1) := by decide +kernel
theorem dX2_has_30 : decode cX2_has 30 = .ok (.aload_n 3, 1) := by decide +kernel
theorem dX2_has_31 : decode cX2_has 31 = .ok (.getfield 28, 3) := by decide +kernel
theorem dX2_has_34 : decode cX2_has 34 = .ok (.if_icmp .ge 7, 3) := by decide +kernel
theorem dX2_has_37 : decode cX2_has 37 = .ok (.iconst 1, 1) := by decide +kernel
theorem dX2_has_38 : decode cX2_has 38 = .ok (.goto 4, 3) := by decide +kernel
theorem dX3_addOffer_0 : decode cX3_addOffer 0 = .ok (.aload_n 0, 1) := by decide +kernel
theorem dX3_addOffer_1 : decode cX3_addOffer 1 = .ok (.getfield 22, 3) := by decide +kernel
theorem dX3_addOffer_4 : decode cX3_addOffer 4 = .ok (.bipush 9, 2) := by decide +kernel
theorem dX3_addOffer_6 : decode cX3_addOffer 6 = .ok (.if_icmp .lt 5, 3) := by decide +kernel
theorem dX3_addOffer_11 : decode cX3_addOffer 11 = .ok (.aload_n 0, 1) := by decide +kernel
theorem dX3_addOffer_12 : decode cX3_addOffer 12 = .ok (.getfield 15, 3) := by decide +kernel
theorem dX3_addOffer_15 : decode cX3_addOffer 15 = .ok (.aload_n 0, 1) := by decide +kernel
theorem dX3_addOffer_16 : decode cX3_addOffer 16 = .ok (.getfield 22, 3) := by decide +kernel
theorem dX3_addOffer_19 : decode cX3_addOffer 19 = .ok (.iload_n 1, 1) := by decide +kernel
theorem dX3_addOffer_20 : decode cX3_addOffer 20 = .ok (.iastore, 1) := by decide +kernel
theorem dX3_addOffer_21 : decode cX3_addOffer 21 = .ok (.aload_n 0, 1) := by decide +kernel
theorem dX3_addOffer_22 : decode cX3_addOffer 22 = .ok (.getfield 19, 3) := by decide +kernel
theorem dX3_addOffer_25 : decode cX3_addOffer 25 = .ok (.aload_n 0, 1) := by decide +kernel
theorem dX3_addOffer_26 : decode cX3_addOffer 26 = .ok (.getfield 22, 3) := by decide +kernel
theorem dX3_addOffer_29 : decode cX3_addOffer 29 = .ok (.iload_n 2, 1) := by decide +kernel
theorem dX3_addOffer_30 : decode cX3_addOffer 30 = .ok (.iastore, 1) := by decide +kernel
theorem dX3_addOffer_31 : decode cX3_addOffer 31 = .ok (.aload_n 0, 1) := by decide +kernel
theorem dX3_addOffer_32 : decode cX3_addOffer 32 = .ok (.dup, 1) := by decide +kernel
theorem dX3_addOffer_33 : decode cX3_addOffer 33 = .ok (.getfield 22, 3) := by decide +kernel
theorem dX3_addOffer_36 : decode cX3_addOffer 36 = .ok (.iconst 1, 1) := by decide +kernel
theorem dX3_addOffer_37 : decode cX3_addOffer 37 = .ok (.iadd, 1) := by decide +kernel
theorem dX3_addOffer_38 : decode cX3_addOffer 38 = .ok (.putfield 22, 3) := by decide +kernel
theorem dX3_addOffer_41 : decode cX3_addOffer 41 = .ok (.aload_n 0, 1) := by decide +kernel
theorem dX3_addOffer_42 : decode cX3_addOffer 42 = .ok (.getfield 22, 3) := by decide +kernel
theorem dX3_addOffer_45 : decode cX3_addOffer 45 = .ok (.ireturn, 1) := by decide +kernel
theorem dX3_addOffer_9 : decode cX3_addOffer 9 = .ok (.iconst (-1), 1) := by decide +kernel
theorem dX3_addOffer_10 : decode cX3_addOffer 10 = .ok (.ireturn, 1) := by decide +kernel
theorem dX3_bestSet_0 : decode cX3_bestSet 0 = .ok (.iconst (-1), 1) := by decide +kernel
theorem dX3_bestSet_1 : decode cX3_bestSet 1 = .ok (.istore_n 3, 1) := by decide +kernel
theorem dX3_bestSet_2 : decode cX3_bestSet 2 = .ok (.iconst 0, 1) := by decide +kernel
theorem dX3_bestSet_3 : decode cX3_bestSet 3 = .ok (.istore 4, 2) := by decide +kernel
theorem dX3_bestSet_5 : decode cX3_bestSet 5 = .ok (.iconst 0, 1) := by decide +kernel
theorem dX3_bestSet_6 : decode cX3_bestSet 6 = .ok (.istore 5, 2) := by decide +kernel
theorem dX3_bestSet_8 : decode cX3_bestSet 8 = .ok (.iload 5, 2) := by decide +kernel
theorem dX3_bestSet_10 : decode cX3_bestSet 10 = .ok (.iconst 1, 1) := by decide +kernel
theorem dX3_bestSet_11 : decode cX3_bestSet 11 = .ok (.aload_n 0, 1) := by decide +kernel
theorem dX3_bestSet_12 : decode cX3_bestSet 12 = .ok (.getfield 22, 3) := by decide +kernel
theorem dX3_bestSet_15 : decode cX3_bestSet 15 = .ok (.ishl, 1) := by decide +kernel
theorem dX3_bestSet_16 : decode cX3_bestSet 16 = .ok (.if_icmp .ge 99, 3) := by decide +kernel
theorem dX3_bestSet_19 : decode cX3_bestSet 19 = .ok (.aload_n 0, 1) := by decide +kernel
theorem dX3_bestSet_20 : decode cX3_bestSet 20 = .ok (.iload 5, 2) := by decide +kernel
theorem dX3_bestSet_22 : decode cX3_bestSet 22 = .ok (.aload_n 0, 1) := by decide +kernel
theorem dX3_bestSet_23 : decode cX3_bestSet 23 = .ok (.getfield 15, 3) := by decide +kernel
theorem dX3_bestSet_26 : decode cX3_bestSet 26 = .ok (.invokevirtual 25, 3) := by decide +kernel
theorem dX3_sumOf_0 : decode cX3_sumOf 0 = .ok (.iconst 0, 1) := by decide +kernel
theorem dX3_sumOf_1 : decode cX3_sumOf 1 = .ok (.istore_n 3, 1) := by decide +kernel
theorem dX3_sumOf_2 : decode cX3_sumOf 2 = .ok (.iconst 0, 1) := by decide +kernel
theorem dX3_sumOf_3 : decode cX3_sumOf 3 = .ok (.istore 4, 2) := by decide +kernel
theorem dX3_sumOf_5 : decode cX3_sumOf 5 = .ok (.iload 4, 2) := by decide +kernel
theorem dX3_sumOf_7 : decode cX3_sumOf 7 = .ok (.aload_n 0, 1) := by decide +kernel
theorem dX3_sumOf_8 : decode cX3_sumOf 8 = .ok (.getfield 22, 3) := by decide +kernel
theorem dX3_sumOf_11 : decode cX3_sumOf 11 = .ok (.if_icmp .ge 37, 3) := by decide +kernel
theorem dX3_sumOf_14 : decode cX3_sumOf 14 = .ok (.iload 4, 2) := by decide +kernel
theorem dX3_sumOf_16 : decode cX3_sumOf 16 = .ok (.aload_n 2, 1) := by decide +kernel
theorem dX3_sumOf_17 : decode cX3_sumOf 17 = .ok (.arraylength, 1) := by decide +kernel
theorem dX3_sumOf_18 : decode cX3_sumOf 18 = .ok (.if_icmp .ge 30, 3) := by decide +kernel
theorem dX3_sumOf_21 : decode cX3_sumOf 21 = .ok (.iload_n 3, 1) := by decide +kernel
theorem dX3_sumOf_22 : decode cX3_sumOf 22 = .ok (.iload_n 1, 1) := by decide +kernel
theorem dX3_sumOf_23 : decode cX3_sumOf 23 = .ok (.iload 4, 2) := by decide +kernel
theorem dX3_sumOf_25 : decode cX3_sumOf 25 = .ok (.ishr, 1) := by decide +kernel
theorem dX3_sumOf_26 : decode cX3_sumOf 26 = .ok (.iconst 1, 1) := by decide +kernel
theorem dX3_sumOf_27 : decode cX3_sumOf 27 = .ok (.iand, 1) := by decide +kernel
theorem dX3_sumOf_28 : decode cX3_sumOf 28 = .ok (.iconst 1, 1) := by decide +kernel
theorem dX3_sumOf_29 : decode cX3_sumOf 29 = .ok (.if_icmp .ne 10, 3) := by decide +kernel
theorem dX3_sumOf_39 : decode cX3_sumOf 39 = .ok (.iconst 0, 1) := by decide +kernel
theorem dX3_sumOf_32 : decode cX3_sumOf 32 = .ok (.aload_n 2, 1) := by decide +kernel
theorem dX3_sumOf_33 : decode cX3_sumOf 33 = .ok (.iload 4, 2) := by decide +kernel
theorem dX3_sumOf_35 : decode cX3_sumOf 35 = .ok (.iaload, 1) := by decide +kernel
theorem dX3_sumOf_36 : decode cX3_sumOf 36 = .ok (.goto 4, 3) := by decide +kernel
theorem dX3_sumOf_40 : decode cX3_sumOf 40 = .ok (.iadd, 1) := by decide +kernel
theorem dX3_sumOf_41 : decode cX3_sumOf 41 = .ok (.istore_n 3, 1) := by decide +kernel
theorem dX3_sumOf_42 : decode cX3_sumOf 42 = .ok (.iinc 4 1, 3) := by decide +kernel
theorem dX3_sumOf_45 : decode cX3_sumOf 45 = .ok (.goto (-40), 3) := by decide +kernel
theorem dX3_sumOf_48 : decode cX3_sumOf 48 = .ok (.iload_n 3, 1) := by decide +kernel
theorem dX3_sumOf_49 : decode cX3_sumOf 49 = .ok (.ireturn, 1) := by decide +kernel
theorem dX3_bestSet_29 : decode cX3_bestSet 29 = .ok (.istore 6, 2) := by decide +kernel
theorem dX3_bestSet_31 : decode cX3_bestSet 31 = .ok (.aload_n 0, 1) := by decide +kernel
theorem dX3_bestSet_32 : decode cX3_bestSet 32 = .ok (.iload 5, 2) := by decide +kernel
theorem dX3_bestSet_34 : decode cX3_bestSet 34 = .ok (.aload_n 0, 1) := by decide +kernel
theorem dX3_bestSet_35 : decode cX3_bestSet 35 = .ok (.getfield 19, 3) := by decide +kernel
theorem dX3_bestSet_38 : decode cX3_bestSet 38 = .ok (.invokevirtual 25, 3) := by decide +kernel
theorem dX3_bestSet_41 : decode cX3_bestSet 41 = .ok (.istore 7, 2) := by decide +kernel
theorem dX3_bestSet_43 : decode cX3_bestSet 43 = .ok (.iload 6, 2) := by decide +kernel
theorem dX3_bestSet_45 : decode cX3_bestSet 45 = .ok (.iload_n 1, 1) := by decide +kernel
theorem dX3_bestSet_46 : decode cX3_bestSet 46 = .ok (.if_icmp .lt 63, 3) := by decide +kernel
theorem dX3_bestSet_49 : decode cX3_bestSet 49 = .ok (.iload 7, 2) := by decide +kernel
theorem dX3_bestSet_51 : decode cX3_bestSet 51 = .ok (.iload_n 2, 1) := by decide +kernel
theorem dX3_bestSet_52 : decode cX3_bestSet 52 = .ok (.if_icmp .ge 6, 3) := by decide +kernel
theorem dX3_bestSet_58 : decode cX3_bestSet 58 = .ok (.iload_n 3, 1) := by decide +kernel
theorem dX3_bestSet_59 : decode cX3_bestSet 59 = .ok (.iconst (-1), 1) := by decide +kernel
theorem dX3_bestSet_60 : decode cX3_bestSet 60 = .ok (.if_icmp .ne 7, 3) := by decide +kernel
theorem dX3_bestSet_63 : decode cX3_bestSet 63 = .ok (.iconst 1, 1) := by decide +kernel
theorem dX3_bestSet_64 : decode cX3_bestSet 64 = .ok (.goto 13, 3) := by decide +kernel
theorem dX3_bestSet_77 : decode cX3_bestSet 77 = .ok (.istore 8, 2) := by decide +kernel
theorem dX3_bestSet_79 : decode cX3_bestSet 79 = .ok (.iload 8, 2) := by decide +kernel
theorem dX3_bestSet_81 : decode cX3_bestSet 81 = .ok (.ifCond .gt 18, 3) := by decide +kernel
theorem dX3_bestSet_99 : decode cX3_bestSet 99 = .ok (.iload 5, 2) := by decide +kernel
theorem dX3_bestSet_101 : decode cX3_bestSet 101 = .ok (.istore_n 3, 1) := by decide +kernel
theorem dX3_bestSet_102 : decode cX3_bestSet 102 = .ok (.iload 6, 2) := by decide +kernel
theorem dX3_bestSet_104 : decode cX3_bestSet 104 = .ok (.iload 7, 2) := by decide +kernel
theorem dX3_bestSet_106 : decode cX3_bestSet 106 = .ok (.iadd, 1) := by decide +kernel
theorem dX3_bestSet_107 : decode cX3_bestSet 107 = .ok (.istore 4, 2) := by decide +kernel
theorem dX3_bestSet_55 : decode cX3_bestSet 55 = .ok (.goto 54, 3) := by decide +kernel
theorem dX3_bestSet_109 : decode cX3_bestSet 109 = .ok (.iinc 5 1, 3) := by decide +kernel
theorem dX3_bestSet_112 : decode cX3_bestSet 112 = .ok (.goto (-104), 3) := by decide +kernel
theorem dX3_bestSet_67 : decode cX3_bestSet 67 = .ok (.iload_n 3, 1) := by decide +kernel
theorem dX3_bestSet_68 : decode cX3_bestSet 68 = .ok (.invokestatic 29, 3) := by decide +kernel
theorem dJ6_bitCount_0f7a4_0 : decode cJ6_bitCount_0f7a4 0 = .ok (.iload_n 0, 1) := by decide +kernel
theorem dJ6_bitCount_0f7a4_1 : decode cJ6_bitCount_0f7a4 1 = .ok (.iload_n 0, 1) := by decide +kernel
theorem dJ6_bitCount_0f7a4_2 : decode cJ6_bitCount_0f7a4 2 = .ok (.iconst 1, 1) := by decide +kernel
theorem dJ6_bitCount_0f7a4_3 : decode cJ6_bitCount_0f7a4 3 = .ok (.iushr, 1) := by decide +kernel
theorem dJ6_bitCount_0f7a4_4 : decode cJ6_bitCount_0f7a4 4 = .ok (.ldc_w 265, 3) := by decide +kernel
theorem dJ6_bitCount_0f7a4_7 : decode cJ6_bitCount_0f7a4 7 = .ok (.iand, 1) := by decide +kernel
theorem dJ6_bitCount_0f7a4_8 : decode cJ6_bitCount_0f7a4 8 = .ok (.isub, 1) := by decide +kernel
theorem dJ6_bitCount_0f7a4_9 : decode cJ6_bitCount_0f7a4 9 = .ok (.istore_n 0, 1) := by decide +kernel
theorem dJ6_bitCount_0f7a4_10 : decode cJ6_bitCount_0f7a4 10 = .ok (.iload_n 0, 1) := by decide +kernel
theorem dJ6_bitCount_0f7a4_11 : decode cJ6_bitCount_0f7a4 11 = .ok (.ldc_w 266, 3) := by decide +kernel
theorem dJ6_bitCount_0f7a4_14 : decode cJ6_bitCount_0f7a4 14 = .ok (.iand, 1) := by decide +kernel
theorem dJ6_bitCount_0f7a4_15 : decode cJ6_bitCount_0f7a4 15 = .ok (.iload_n 0, 1) := by decide +kernel
theorem dJ6_bitCount_0f7a4_16 : decode cJ6_bitCount_0f7a4 16 = .ok (.iconst 2, 1) := by decide +kernel
theorem dJ6_bitCount_0f7a4_17 : decode cJ6_bitCount_0f7a4 17 = .ok (.iushr, 1) := by decide +kernel
theorem dJ6_bitCount_0f7a4_18 : decode cJ6_bitCount_0f7a4 18 = .ok (.ldc_w 266, 3) := by decide +kernel
theorem dJ6_bitCount_0f7a4_21 : decode cJ6_bitCount_0f7a4 21 = .ok (.iand, 1) := by decide +kernel
theorem dJ6_bitCount_0f7a4_22 : decode cJ6_bitCount_0f7a4 22 = .ok (.iadd, 1) := by decide +kernel
theorem dJ6_bitCount_0f7a4_23 : decode cJ6_bitCount_0f7a4 23 = .ok (.istore_n 0, 1) := by decide +kernel
theorem dJ6_bitCount_0f7a4_24 : decode cJ6_bitCount_0f7a4 24 = .ok (.iload_n 0, 1) := by decide +kernel
theorem dJ6_bitCount_0f7a4_25 : decode cJ6_bitCount_0f7a4 25 = .ok (.iload_n 0, 1) := by decide +kernel
theorem dJ6_bitCount_0f7a4_26 : decode cJ6_bitCount_0f7a4 26 = .ok (.iconst 4, 1) := by decide +kernel
theorem dJ6_bitCount_0f7a4_27 : decode cJ6_bitCount_0f7a4 27 = .ok (.iushr, 1) := by decide +kernel
theorem dJ6_bitCount_0f7a4_28 : decode cJ6_bitCount_0f7a4 28 = .ok (.iadd, 1) := by decide +kernel
theorem dJ6_bitCount_0f7a4_29 : decode cJ6_bitCount_0f7a4 29 = .ok (.ldc_w 267, 3) := by decide +kernel
theorem dJ6_bitCount_0f7a4_32 : decode cJ6_bitCount_0f7a4 32 = .ok (.iand, 1) := by decide +kernel
theorem dJ6_bitCount_0f7a4_33 : decode cJ6_bitCount_0f7a4 33 = .ok (.istore_n 0, 1) := by decide +kernel
theorem dJ6_bitCount_0f7a4_34 : decode cJ6_bitCount_0f7a4 34 = .ok (.iload_n 0, 1) := by decide +kernel
theorem dJ6_bitCount_0f7a4_35 : decode cJ6_bitCount_0f7a4 35 = .ok (.iload_n 0, 1) := by decide +kernel
theorem dJ6_bitCount_0f7a4_36 : decode cJ6_bitCount_0f7a4 36 = .ok (.bipush 8, 2) := by decide +kernel
theorem dJ6_bitCount_0f7a4_38 : decode cJ6_bitCount_0f7a4 38 = .ok (.iushr, 1) := by decide +kernel
theorem dJ6_bitCount_0f7a4_39 : decode cJ6_bitCount_0f7a4 39 = .ok (.iadd, 1) := by decide +kernel
theorem dJ6_bitCount_0f7a4_40 : decode cJ6_bitCount_0f7a4 40 = .ok (.istore_n 0, 1) := by decide +kernel
theorem dJ6_bitCount_0f7a4_41 : decode cJ6_bitCount_0f7a4 41 = .ok (.iload_n 0, 1) := by decide +kernel
theorem dJ6_bitCount_0f7a4_42 : decode cJ6_bitCount_0f7a4 42 = .ok (.iload_n 0, 1) := by decide +kernel
theorem dJ6_bitCount_0f7a4_43 : decode cJ6_bitCount_0f7a4 43 = .ok (.bipush 16, 2) := by decide +kernel
theorem dJ6_bitCount_0f7a4_45 : decode cJ6_bitCount_0f7a4 45 = .ok (.iushr, 1) := by decide +kernel
theorem dJ6_bitCount_0f7a4_46 : decode cJ6_bitCount_0f7a4 46 = .ok (.iadd, 1) := by decide +kernel
theorem dJ6_bitCount_0f7a4_47 : decode cJ6_bitCount_0f7a4 47 = .ok (.istore_n 0, 1) := by decide +kernel
theorem dJ6_bitCount_0f7a4_48 : decode cJ6_bitCount_0f7a4 48 = .ok (.iload_n 0, 1) := by decide +kernel
theorem dJ6_bitCount_0f7a4_49 : decode cJ6_bitCount_0f7a4 49 = .ok (.bipush 63, 2) := by decide +kernel
theorem dJ6_bitCount_0f7a4_51 : decode cJ6_bitCount_0f7a4 51 = .ok (.iand, 1) := by decide +kernel
theorem dJ6_bitCount_0f7a4_52 : decode cJ6_bitCount_0f7a4 52 = .ok (.ireturn, 1) := by decide +kernel
theorem dX3_bestSet_71 : decode cX3_bestSet 71 = .ok (.iload 5, 2) := by decide +kernel
theorem dX3_bestSet_73 : decode cX3_bestSet 73 = .ok (.invokestatic 29, 3) := by decide +kernel
theorem dX3_bestSet_76 : decode cX3_bestSet 76 = .ok (.isub, 1) := by decide +kernel
theorem dX3_bestSet_84 : decode cX3_bestSet 84 = .ok (.iload 8, 2) := by decide +kernel
theorem dX3_bestSet_86 : decode cX3_bestSet 86 = .ok (.ifCond .ne 23, 3) := by decide +kernel
theorem dX3_bestSet_89 : decode cX3_bestSet 89 = .ok (.iload 6, 2) := by decide +kernel
theorem dX3_bestSet_91 : decode cX3_bestSet 91 = .ok (.iload 7, 2) := by decide +kernel
theorem dX3_bestSet_93 : decode cX3_bestSet 93 = .ok (.iadd, 1) := by decide +kernel
theorem dX3_bestSet_94 : decode cX3_bestSet 94 = .ok (.iload 4, 2) := by decide +kernel
theorem dX3_bestSet_96 : decode cX3_bestSet 96 = .ok (.if_icmp .le 13, 3) := by decide +kernel
theorem dX3_bestSet_115 : decode cX3_bestSet 115 = .ok (.iload_n 3, 1) := by decide +kernel
theorem dX3_bestSet_116 : decode cX3_bestSet 116 = .ok (.ireturn, 1) := by decide +kernel
theorem dX3_copyFrom_0 : decode cX3_copyFrom 0 = .ok (.aload_n 0, 1) := by decide +kernel
theorem dX3_copyFrom_1 : decode cX3_copyFrom 1 = .ok (.aload_n 1, 1) := by decide +kernel
theorem dX3_copyFrom_2 : decode cX3_copyFrom 2 = .ok (.getfield 35, 3) := by decide +kernel
theorem dX3_copyFrom_5 : decode cX3_copyFrom 5 = .ok (.putfield 35, 3) := by decide +kernel
theorem dX3_copyFrom_8 : decode cX3_copyFrom 8 = .ok (.aload_n 0, 1) := by decide +kernel
theorem dX3_copyFrom_9 : decode cX3_copyFrom 9 = .ok (.aload_n 1, 1) := by decide +kernel
theorem dX3_copyFrom_10 : decode cX3_copyFrom 10 = .ok (.getfield 9, 3) := by decide +kernel
theorem dX3_copyFrom_13 : decode cX3_copyFrom 13 = .ok (.putfield 9, 3) := by decide +kernel
theorem dX3_copyFrom_16 : decode cX3_copyFrom 16 = .ok (.aload_n 0, 1) := by decide +kernel
theorem dX3_copyFrom_17 : decode cX3_copyFrom 17 = .ok (.aload_n 1, 1) := by decide +kernel
theorem dX3_copyFrom_18 : decode cX3_copyFrom 18 = .ok (.getfield 38, 3) := by decide +kernel
theorem dX3_copyFrom_21 : decode cX3_copyFrom 21 = .ok (.putfield 38, 3) := by decide +kernel
theorem dX3_copyFrom_24 : decode cX3_copyFrom 24 = .ok (.aload_n 0, 1) := by decide +kernel
theorem dX3_copyFrom_25 : decode cX3_copyFrom 25 = .ok (.aload_n 1, 1) := by decide +kernel
theorem dX3_copyFrom_26 : decode cX3_copyFrom 26 = .ok (.getfield 22, 3) := by decide +kernel
theorem dX3_copyFrom_29 : decode cX3_copyFrom 29 = .ok (.putfield 22, 3) := by decide +kernel
theorem dX3_copyFrom_32 : decode cX3_copyFrom 32 = .ok (.aload_n 1, 1) := by decide +kernel
theorem dX3_copyFrom_33 : decode cX3_copyFrom 33 = .ok (.getfield 15, 3) := by decide +kernel
theorem dX3_copyFrom_36 : decode cX3_copyFrom 36 = .ok (.iconst 0, 1) := by decide +kernel
theorem dX3_copyFrom_37 : decode cX3_copyFrom 37 = .ok (.aload_n 0, 1) := by decide +kernel
theorem dX3_copyFrom_38 : decode cX3_copyFrom 38 = .ok (.getfield 15, 3) := by decide +kernel
theorem dX3_copyFrom_41 : decode cX3_copyFrom 41 = .ok (.iconst 0, 1) := by decide +kernel
theorem dX3_copyFrom_42 : decode cX3_copyFrom 42 = .ok (.bipush 9, 2) := by decide +kernel
theorem dX3_copyFrom_44 : decode cX3_copyFrom 44 = .ok (.invokestatic 41, 3) := by decide +kernel
theorem dX3_copyFrom_47 : decode cX3_copyFrom 47 = .ok (.aload_n 1, 1) := by decide +kernel
theorem dX3_copyFrom_48 : decode cX3_copyFrom 48 = .ok (.getfield 19, 3) := by decide +kernel
theorem dX3_copyFrom_51 : decode cX3_copyFrom 51 = .ok (.iconst 0, 1) := by decide +kernel
theorem dX3_copyFrom_52 : decode cX3_copyFrom 52 = .ok (.aload_n 0, 1) := by decide +kernel
theorem dX3_copyFrom_53 : decode cX3_copyFrom 53 = .ok (.getfield 19, 3) := by decide +kernel
theorem dX3_copyFrom_56 : decode cX3_copyFrom 56 = .ok (.iconst 0, 1) := by decide +kernel
theorem dX3_copyFrom_57 : decode cX3_copyFrom 57 = .ok (.bipush 9, 2) := by decide +kernel
theorem dX3_copyFrom_59 : decode cX3_copyFrom 59 = .ok (.invokestatic 41, 3) := by decide +kernel
theorem dX3_copyFrom_62 : decode cX3_copyFrom 62 = .ok (.return_, 1) := by decide +kernel
theorem dX4_add_0 : decode cX4_add 0 = .ok (.aload_n 0, 1) := by decide +kernel
theorem dX4_add_1 : decode cX4_add 1 = .ok (.getfield 39, 3) := by decide +kernel
theorem dX4_add_4 : decode cX4_add 4 = .ok (.bipush 40, 2) := by decide +kernel
theorem dX4_add_6 : decode cX4_add 6 = .ok (.if_icmp .lt 5, 3) := by decide +kernel
theorem dX4_add_11 : decode cX4_add 11 = .ok (.aload_n 0, 1) := by decide +kernel
theorem dX4_add_12 : decode cX4_add 12 = .ok (.getfield 39, 3) := by decide +kernel
theorem dX4_add_15 : decode cX4_add 15 = .ok (.istore 4, 2) := by decide +kernel
theorem dX4_add_17 : decode cX4_add 17 = .ok (.aload_n 0, 1) := by decide +kernel
theorem dX4_add_18 : decode cX4_add 18 = .ok (.getfield 9, 3) := by decide +kernel
theorem dX4_add_21 : decode cX4_add 21 = .ok (.iload 4, 2) := by decide +kernel
theorem dX4_add_23 : decode cX4_add 23 = .ok (.iload_n 1, 1) := by decide +kernel
theorem dX4_add_24 : decode cX4_add 24 = .ok (.iastore, 1) := by decide +kernel
theorem dX4_add_25 : decode cX4_add 25 = .ok (.aload_n 0, 1) := by decide +kernel
theorem dX4_add_26 : decode cX4_add 26 = .ok (.getfield 15, 3) := by decide +kernel
theorem dX4_add_29 : decode cX4_add 29 = .ok (.iload 4, 2) := by decide +kernel
theorem dX4_add_31 : decode cX4_add 31 = .ok (.iload_n 2, 1) := by decide +kernel
theorem dX4_add_32 : decode cX4_add 32 = .ok (.iastore, 1) := by decide +kernel
theorem dX4_add_33 : decode cX4_add 33 = .ok (.aload_n 0, 1) := by decide +kernel
theorem dX4_add_34 : decode cX4_add 34 = .ok (.getfield 18, 3) := by decide +kernel
theorem dX4_add_37 : decode cX4_add 37 = .ok (.iload 4, 2) := by decide +kernel
theorem dX4_add_39 : decode cX4_add 39 = .ok (.iload_n 3, 1) := by decide +kernel
theorem dX4_add_40 : decode cX4_add 40 = .ok (.iastore, 1) := by decide +kernel
theorem dX4_add_41 : decode cX4_add 41 = .ok (.aload_n 0, 1) := by decide +kernel
theorem dX4_add_42 : decode cX4_add 42 = .ok (.getfield 21, 3) := by decide +kernel
theorem dX4_add_45 : decode cX4_add 45 = .ok (.iload 4, 2) := by decide +kernel
theorem dX4_add_47 : decode cX4_add 47 = .ok (.iconst (-1), 1) := by decide +kernel
theorem dX4_add_48 : decode cX4_add 48 = .ok (.iastore, 1) := by decide +kernel
theorem dX4_add_49 : decode cX4_add 49 = .ok (.aload_n 0, 1) := by decide +kernel
theorem dX4_add_50 : decode cX4_add 50 = .ok (.getfield 24, 3) := by decide +kernel
theorem dX4_add_53 : decode cX4_add 53 = .ok (.iload 4, 2) := by decide +kernel
theorem dX4_add_55 : decode cX4_add 55 = .ok (.iconst 0, 1) := by decide +kernel
theorem dX4_add_56 : decode cX4_add 56 = .ok (.iastore, 1) := by decide +kernel
theorem dX4_add_57 : decode cX4_add 57 = .ok (.aload_n 0, 1) := by decide +kernel
theorem dX4_add_58 : decode cX4_add 58 = .ok (.getfield 27, 3) := by decide +kernel
theorem dX4_add_61 : decode cX4_add 61 = .ok (.iload 4, 2) := by decide +kernel
theorem dX4_add_63 : decode cX4_add 63 = .ok (.iconst 0, 1) := by decide +kernel
theorem dX4_add_64 : decode cX4_add 64 = .ok (.iastore, 1) := by decide +kernel
theorem dX4_add_65 : decode cX4_add 65 = .ok (.aload_n 0, 1) := by decide +kernel
theorem dX4_add_66 : decode cX4_add 66 = .ok (.getfield 30, 3) := by decide +kernel
theorem dX4_add_69 : decode cX4_add 69 = .ok (.iload 4, 2) := by decide +kernel
theorem dX4_add_71 : decode cX4_add 71 = .ok (.iconst (-1), 1) := by decide +kernel
theorem dX4_add_72 : decode cX4_add 72 = .ok (.iastore, 1) := by decide +kernel
theorem dX4_add_73 : decode cX4_add 73 = .ok (.aload_n 0, 1) := by decide +kernel
theorem dX4_add_74 : decode cX4_add 74 = .ok (.getfield 33, 3) := by decide +kernel
theorem dX4_add_77 : decode cX4_add 77 = .ok (.iload 4, 2) := by decide +kernel
theorem dX4_add_79 : decode cX4_add 79 = .ok (.iconst 0, 1) := by decide +kernel
theorem dX4_add_80 : decode cX4_add 80 = .ok (.iastore, 1) := by decide +kernel
theorem dX4_add_81 : decode cX4_add 81 = .ok (.aload_n 0, 1) := by decide +kernel
theorem dX4_add_82 : decode cX4_add 82 = .ok (.dup, 1) := by decide +kernel
theorem dX4_add_83 : decode cX4_add 83 = .ok (.getfield 39, 3) := by decide +kernel
theorem dX4_add_86 : decode cX4_add 86 = .ok (.iconst 1, 1) := by decide +kernel
theorem dX4_add_87 : decode cX4_add 87 = .ok (.iadd, 1) := by decide +kernel
theorem dX4_add_88 : decode cX4_add 88 = .ok (.putfield 39, 3) := by decide +kernel
theorem dX4_add_91 : decode cX4_add 91 = .ok (.iload 4, 2) := by decide +kernel
theorem dX4_add_93 : decode cX4_add 93 = .ok (.ireturn, 1) := by decide +kernel
theorem dX4_add_9 : decode cX4_add 9 = .ok (.iconst (-1), 1) := by decide +kernel
theorem dX4_add_10 : decode cX4_add 10 = .ok (.ireturn, 1) := by decide +kernel
theorem dX4_isAbout_0 : decode cX4_isAbout 0 = .ok (.aload_n 0, 1) := by decide +kernel
theorem dX4_isAbout_1 : decode cX4_isAbout 1 = .ok (.getfield 27, 3) := by decide +kernel
theorem dX4_isAbout_4 : decode cX4_isAbout 4 = .ok (.iload_n 1, 1) := by decide +kernel
theorem dX4_isAbout_5 : decode cX4_isAbout 5 = .ok (.iaload, 1) := by decide +kernel
theorem dX4_isAbout_6 : decode cX4_isAbout 6 = .ok (.ifCond .eq 13, 3) := by decide +kernel
theorem dX4_isAbout_19 : decode cX4_isAbout 19 = .ok (.iconst 1, 1) := by decide +kernel
theorem dX4_isAbout_20 : decode cX4_isAbout 20 = .ok (.goto 4, 3) := by decide +kernel
theorem dX4_isAbout_9 : decode cX4_isAbout 9 = .ok (.aload_n 0, 1) := by decide +kernel
theorem dX4_isAbout_10 : decode cX4_isAbout 10 = .ok (.getfield 27, 3) := by decide +kernel
theorem dX4_isAbout_13 : decode cX4_isAbout 13 = .ok (.iload_n 1, 1) := by decide +kernel
theorem dX4_isAbout_14 : decode cX4_isAbout 14 = .ok (.iaload, 1) := by decide +kernel
theorem dX4_isAbout_15 : decode cX4_isAbout 15 = .ok (.iconst 1, 1) := by decide +kernel
theorem dX4_isAbout_16 : decode cX4_isAbout 16 = .ok (.if_icmp .ne 7, 3) := by decide +kernel
theorem dX4_isAbout_23 : decode cX4_isAbout 23 = .ok (.iconst 0, 1) := by decide +kernel
theorem dX4_isAbout_24 : decode cX4_isAbout 24 = .ok (.ireturn, 1) := by decide +kernel
theorem dX4_keepsBan_0 : decode cX4_keepsBan 0 = .ok (.aload_n 0, 1) := by decide +kernel
theorem dX4_keepsBan_1 : decode cX4_keepsBan 1 = .ok (.getfield 9, 3) := by decide +kernel
theorem dX4_keepsBan_4 : decode cX4_keepsBan 4 = .ok (.iload_n 1, 1) := by decide +kernel
theorem dX4_keepsBan_5 : decode cX4_keepsBan 5 = .ok (.iaload, 1) := by decide +kernel
theorem dX4_keepsBan_6 : decode cX4_keepsBan 6 = .ok (.aload_n 0, 1) := by decide +kernel
theorem dX4_keepsBan_7 : decode cX4_keepsBan 7 = .ok (.getfield 9, 3) := by decide +kernel
theorem dX4_keepsBan_10 : decode cX4_keepsBan 10 = .ok (.iload_n 2, 1) := by decide +kernel
theorem dX4_keepsBan_11 : decode cX4_keepsBan 11 = .ok (.iaload, 1) := by decide +kernel
theorem dX4_keepsBan_12 : decode cX4_keepsBan 12 = .ok (.if_icmp .ne 5, 3) := by decide +kernel
theorem dX4_keepsBan_17 : decode cX4_keepsBan 17 = .ok (.iload_n 1, 1) := by decide +kernel
theorem dX4_keepsBan_18 : decode cX4_keepsBan 18 = .ok (.istore 4, 2) := by decide +kernel
theorem dX4_keepsBan_20 : decode cX4_keepsBan 20 = .ok (.iconst 0, 1) := by decide +kernel
theorem dX4_keepsBan_21 : decode cX4_keepsBan 21 = .ok (.istore 5, 2) := by decide +kernel
theorem dX4_keepsBan_23 : decode cX4_keepsBan 23 = .ok (.iload 5, 2) := by decide +kernel
theorem dX4_keepsBan_25 : decode cX4_keepsBan 25 = .ok (.bipush 40, 2) := by decide +kernel
theorem dX4_keepsBan_27 : decode cX4_keepsBan 27 = .ok (.if_icmp .gt 40, 3) := by decide +kernel
theorem dX4_keepsBan_30 : decode cX4_keepsBan 30 = .ok (.aload_n 0, 1) := by decide +kernel
theorem dX4_keepsBan_31 : decode cX4_keepsBan 31 = .ok (.iload 4, 2) := by decide +kernel
theorem dX4_keepsBan_33 : decode cX4_keepsBan 33 = .ok (.invokevirtual 50, 3) := by decide +kernel
theorem dX4_keepsBan_36 : decode cX4_keepsBan 36 = .ok (.ifCond .eq 31, 3) := by decide +kernel
theorem dX4_keepsBan_39 : decode cX4_keepsBan 39 = .ok (.aload_n 0, 1) := by decide +kernel
theorem dX4_keepsBan_40 : decode cX4_keepsBan 40 = .ok (.getfield 18, 3) := by decide +kernel
theorem dX4_keepsBan_43 : decode cX4_keepsBan 43 = .ok (.iload 4, 2) := by decide +kernel
theorem dX4_keepsBan_45 : decode cX4_keepsBan 45 = .ok (.iaload, 1) := by decide +kernel
theorem dX4_keepsBan_46 : decode cX4_keepsBan 46 = .ok (.iload_n 3, 1) := by decide +kernel
theorem dX4_keepsBan_47 : decode cX4_keepsBan 47 = .ok (.if_icmp .lt 5, 3) := by decide +kernel
theorem dX4_keepsBan_52 : decode cX4_keepsBan 52 = .ok (.aload_n 0, 1) := by decide +kernel
theorem dX4_keepsBan_53 : decode cX4_keepsBan 53 = .ok (.getfield 21, 3) := by decide +kernel
theorem dX4_keepsBan_56 : decode cX4_keepsBan 56 = .ok (.iload 4, 2) := by decide +kernel
theorem dX4_keepsBan_58 : decode cX4_keepsBan 58 = .ok (.iaload, 1) := by decide +kernel
theorem dX4_keepsBan_59 : decode cX4_keepsBan 59 = .ok (.istore 4, 2) := by decide +kernel
theorem dX4_keepsBan_61 : decode cX4_keepsBan 61 = .ok (.iinc 5 1, 3) := by decide +kernel
theorem dX4_keepsBan_64 : decode cX4_keepsBan 64 = .ok (.goto (-41), 3) := by decide +kernel
theorem dX4_keepsBan_50 : decode cX4_keepsBan 50 = .ok (.iconst 1, 1) := by decide +kernel
theorem dX4_keepsBan_51 : decode cX4_keepsBan 51 = .ok (.ireturn, 1) := by decide +kernel
theorem dX4_keepsBan_67 : decode cX4_keepsBan 67 = .ok (.iconst 0, 1) := by decide +kernel
theorem dX4_keepsBan_68 : decode cX4_keepsBan 68 = .ok (.ireturn, 1) := by decide +kernel
theorem dX4_keepsBan_15 : decode cX4_keepsBan 15 = .ok (.iconst 0, 1) := by decide +kernel
theorem dX4_keepsBan_16 : decode cX4_keepsBan 16 = .ok (.ireturn, 1) := by decide +kernel
theorem dX4_maySell_0 : decode cX4_maySell 0 = .ok (.iload_n 1, 1) := by decide +kernel
theorem dX4_maySell_1 : decode cX4_maySell 1 = .ok (.iload_n 2, 1) := by decide +kernel
theorem dX4_maySell_2 : decode cX4_maySell 2 = .ok (.if_icmp .eq 36, 3) := by decide +kernel
theorem dX4_maySell_38 : decode cX4_maySell 38 = .ok (.iconst 0, 1) := by decide +kernel
theorem dX4_maySell_5 : decode cX4_maySell 5 = .ok (.aload_n 0, 1) := by decide +kernel
theorem dX4_maySell_6 : decode cX4_maySell 6 = .ok (.iload_n 1, 1) := by decide +kernel
theorem dX4_maySell_7 : decode cX4_maySell 7 = .ok (.invokevirtual 54, 3) := by decide +kernel
theorem dX4_maySell_10 : decode cX4_maySell 10 = .ok (.ifCond .eq 28, 3) := by decide +kernel
theorem dX4_maySell_13 : decode cX4_maySell 13 = .ok (.aload_n 0, 1) := by decide +kernel
theorem dX4_maySell_14 : decode cX4_maySell 14 = .ok (.getfield 15, 3) := by decide +kernel
theorem dX4_maySell_17 : decode cX4_maySell 17 = .ok (.iload_n 1, 1) := by decide +kernel
theorem dX4_maySell_18 : decode cX4_maySell 18 = .ok (.iaload, 1) := by decide +kernel
theorem dX4_maySell_19 : decode cX4_maySell 19 = .ok (.iload_n 3, 1) := by decide +kernel
theorem dX4_maySell_20 : decode cX4_maySell 20 = .ok (.if_icmp .lt 18, 3) := by decide +kernel
theorem dX4_maySell_23 : decode cX4_maySell 23 = .ok (.aload_n 0, 1) := by decide +kernel
theorem dX4_maySell_24 : decode cX4_maySell 24 = .ok (.iload_n 1, 1) := by decide +kernel
theorem dX4_maySell_25 : decode cX4_maySell 25 = .ok (.iload_n 2, 1) := by decide +kernel
theorem dX4_maySell_26 : decode cX4_maySell 26 = .ok (.iload 4, 2) := by decide +kernel
theorem dX4_maySell_28 : decode cX4_maySell 28 = .ok (.invokevirtual 57, 3) := by decide +kernel
theorem dX4_maySell_31 : decode cX4_maySell 31 = .ok (.ifCond .ne 7, 3) := by decide +kernel
theorem dX4_maySell_34 : decode cX4_maySell 34 = .ok (.iconst 1, 1) := by decide +kernel
theorem dX4_maySell_35 : decode cX4_maySell 35 = .ok (.goto 4, 3) := by decide +kernel
theorem dX4_maySell_39 : decode cX4_maySell 39 = .ok (.ireturn, 1) := by decide +kernel
theorem dX11_within_0 : decode cX11_within 0 = .ok (.iload_n 0, 1) := by decide +kernel
theorem dX11_within_1 : decode cX11_within 1 = .ok (.iload_n 1, 1) := by decide +kernel
theorem dX11_within_2 : decode cX11_within 2 = .ok (.if_icmp .lt 12, 3) := by decide +kernel
theorem dX11_within_14 : decode cX11_within 14 = .ok (.iconst 0, 1) := by decide +kernel
theorem dX11_within_15 : decode cX11_within 15 = .ok (.ireturn, 1) := by decide +kernel
theorem dX11_within_5 : decode cX11_within 5 = .ok (.iload_n 0, 1) := by decide +kernel
theorem dX11_within_6 : decode cX11_within 6 = .ok (.iload_n 2, 1) := by decide +kernel
theorem dX11_within_7 : decode cX11_within 7 = .ok (.if_icmp .gt 7, 3) := by decide +kernel
theorem dX11_within_10 : decode cX11_within 10 = .ok (.iconst 1, 1) := by decide +kernel
theorem dX11_within_11 : decode cX11_within 11 = .ok (.goto 4, 3) := by decide +kernel
theorem dX11_isWeek_0 : decode cX11_isWeek 0 = .ok (.iload_n 0, 1) := by decide +kernel
theorem dX11_isWeek_1 : decode cX11_isWeek 1 = .ok (.ifCond .lt 14, 3) := by decide +kernel
theorem dX11_isWeek_15 : decode cX11_isWeek 15 = .ok (.iconst 0, 1) := by decide +kernel
theorem dX11_isWeek_16 : decode cX11_isWeek 16 = .ok (.ireturn, 1) := by decide +kernel
theorem dX11_isWeek_4 : decode cX11_isWeek 4 = .ok (.iload_n 0, 1) := by decide +kernel
theorem dX11_isWeek_5 : decode cX11_isWeek 5 = .ok (.sipush 399, 3) := by decide +kernel
theorem dX11_isWeek_8 : decode cX11_isWeek 8 = .ok (.if_icmp .gt 7, 3) := by decide +kernel
theorem dX11_isWeek_11 : decode cX11_isWeek 11 = .ok (.iconst 1, 1) := by decide +kernel
theorem dX11_isWeek_12 : decode cX11_isWeek 12 = .ok (.goto 4, 3) := by decide +kernel
theorem dX11_refuse_0 : decode cX11_refuse 0 = .ok (.aload_n 0, 1) := by decide +kernel
theorem dX11_refuse_1 : decode cX11_refuse 1 = .ok (.iload_n 1, 1) := by decide +kernel
theorem dX11_refuse_2 : decode cX11_refuse 2 = .ok (.putfield 356, 3) := by decide +kernel
theorem dX11_refuse_5 : decode cX11_refuse 5 = .ok (.iload_n 1, 1) := by decide +kernel
theorem dX11_refuse_6 : decode cX11_refuse 6 = .ok (.ireturn, 1) := by decide +kernel
theorem dX11_accept_0 : decode cX11_accept 0 = .ok (.aload_n 0, 1) := by decide +kernel
theorem dX11_accept_1 : decode cX11_accept 1 = .ok (.iconst 0, 1) := by decide +kernel
theorem dX11_accept_2 : decode cX11_accept 2 = .ok (.putfield 356, 3) := by decide +kernel
theorem dX11_accept_5 : decode cX11_accept 5 = .ok (.iload_n 1, 1) := by decide +kernel
theorem dX11_accept_6 : decode cX11_accept 6 = .ok (.ireturn, 1) := by decide +kernel
def ms_X4_has : List (Nat × Nat) := []
def po_X4_has (kp : Nat → Nat) (L : List Nat) (f0 : Nat → va_E) (h0 : Nat) (u1 : Int32) : Option Value → (Nat → va_E) → Prop := fun v f => (∃ r : Int32, v = some (.int r) ∧ ((r.toInt = 1 ∧ 0 ≤ u1.toInt ∧ u1.toInt ≤ 39) ∨ (r.toInt = 0 ∧ True))) ∧ FM kp L ms_X4_has f0 f
set_option maxHeartbeats 4000000 in
set_option maxRecDepth 100000 in
theorem c_X4_has (l : Launch) (G : va_G) (cI cJ cZ cD cR cT : ClassId) (kp : Nat → Nat) (L : List Nat) (f0 : Nat → va_E) (hTH : TH cI cJ cZ cD cR cT kp L f0) (sz : Nat) (h0 : Nat) (u1 : Int32) (rh0 : RK kp L h0 4) : Met l yX4_has (Cond.code yX4_has cX4_has 2 (some .boolean) :: wTab) ({ frames := 1, cells := 0, slots := 0, locals := 40 }) (va_Pc [.ref h0, .int u1] (PreW G (tys6 cI cJ cZ cD cR cT) (va_pl L f0) sz)) (QT (po_X4_has kp L f0 h0 u1) G cI cJ cZ cD cR cT (va_A (va_pl L f0) sz) kp L) 0 0 (va_A (va_pl L f0) sz) := by
  refine metT (by decide) (Nat.le_of_ble_eq_true rfl) hTH ?_
  intro p e s m below meth c A ls E hW hl
  obtain ⟨hx, hb, -, hml, hown, hts, -, -, -⟩ := id E
  have hF : FM kp L ms_X4_has f0 f0 := FM.rf
  have hl : lv_has ls 2 [(0, .ref h0), (1, .int u1)] := hl
  refine lv_iload_n hx hb dX4_has_0 rfl (lv_at hl 1 rfl) ?_
  refine q_if_lt (tgt := 16) hx hb dX4_has_1 (by decide) rfl (fun c482702 => ?_) (fun c482702 => ?_)
  · refine lv_iconst (v := 0) hx hb dX4_has_16 (by decide) ?_
    exact e_Z E hW rfl (by decide) ⟨⟨_, rfl, (by have hk : (0 : Int32).toInt = 0 := rfl; first | decide | omega)⟩, hF⟩ dX4_has_17
  · refine lv_iload_n hx hb dX4_has_4 rfl (lv_at hl 1 rfl) ?_
    refine lv_aload_n hx hb dX4_has_5 rfl (lv_at hl 0 rfl) ?_
    refine fg_RX4_39 E hW rh0 dX4_has_6 (fun y482703 m482704 b482705 => ?_)
    refine q_icmp_ge (tgt := 16) hx hb dX4_has_9 (by decide) rfl rfl (fun c482706 => ?_) (fun c482706 => ?_)
    · refine lv_iconst (v := 0) hx hb dX4_has_16 (by decide) ?_
      exact e_Z E hW rfl (by decide) ⟨⟨_, rfl, (by have hk : (0 : Int32).toInt = 0 := rfl; first | decide | omega)⟩, hF⟩ dX4_has_17
    · refine lv_iconst (v := 1) hx hb dX4_has_12 (by decide) ?_
      refine lv_goto (tgt := 17) hx hb dX4_has_13 (by decide) ?_
      exact e_Z E hW rfl (by decide) ⟨⟨_, rfl, (by have hk : (1 : Int32).toInt = 1 := rfl; first | decide | omega)⟩, hF⟩ dX4_has_17
def ms_X4_isAbout : List (Nat × Nat) := []
def po_X4_isAbout (kp : Nat → Nat) (L : List Nat) (f0 : Nat → va_E) (h0 : Nat) (u1 : Int32) : Option Value → (Nat → va_E) → Prop := fun v f => (∃ r : Int32, v = some (.int r) ∧ ((0 : Int) ≤ r.toInt ∧ r.toInt ≤ 1)) ∧ FM kp L ms_X4_isAbout f0 f
set_option maxHeartbeats 4000000 in
set_option maxRecDepth 100000 in
theorem c_X4_isAbout (l : Launch) (G : va_G) (cI cJ cZ cD cR cT : ClassId) (kp : Nat → Nat) (L : List Nat) (f0 : Nat → va_E) (hTH : TH cI cJ cZ cD cR cT kp L f0) (sz : Nat) (h0 : Nat) (u1 : Int32) (rh0 : RK kp L h0 4) : Met l yX4_isAbout (Cond.code yX4_isAbout cX4_isAbout 2 (some .boolean) :: wTab) ({ frames := 1, cells := 0, slots := 0, locals := 40 }) (va_Pc [.ref h0, .int u1] (PreW G (tys6 cI cJ cZ cD cR cT) (va_pl L f0) sz)) (QT (po_X4_isAbout kp L f0 h0 u1) G cI cJ cZ cD cR cT (va_A (va_pl L f0) sz) kp L) 0 0 (va_A (va_pl L f0) sz) := by
  refine metT (by decide) (Nat.le_of_ble_eq_true rfl) hTH ?_
  intro p e s m below meth c A ls E hW hl
  obtain ⟨hx, hb, -, hml, hown, hts, -, -, -⟩ := id E
  have hF : FM kp L ms_X4_isAbout f0 f0 := FM.rf
  have hl : lv_has ls 2 [(0, .ref h0), (1, .int u1)] := hl
  refine lv_aload_n hx hb dX4_isAbout_0 rfl (lv_at hl 0 rfl) ?_
  refine fg_RX4_27 E hW rh0 dX4_isAbout_1 (fun a482707 m482708 r482709 => ?_)
  refine lv_iload_n hx hb dX4_isAbout_4 rfl (lv_at hl 1 rfl) ?_
  refine gl_346 E hW r482709 ⟨by omega, by omega⟩ dX4_isAbout_5 (fun y482710 m482711 => ?_)
  have J482722 : ∀ (y482720 : Int32) (b482721 : (0 : Int) ≤ y482720.toInt ∧ y482720.toInt ≤ 1) (H : Heap) (locs : List Loc) (ls : Array Slot), WS G cI cJ cZ cD cR cT A kp L f0 s H locs → FM kp L ms_X4_isAbout f0 f0 → lv_has ls 2 [(0, .ref h0), (1, .int u1)] → W p l e ({ frames := 1, cells := 0, slots := 0, locals := 40 }) s m ([.ref h0, .int u1] : List Value).toArray below meth c H locs 0 0 (MQ below (QT (po_X4_isAbout kp L f0 h0 u1) G cI cJ cZ cD cR cT A kp L) ([.ref h0, .int u1] : List Value).toArray s 0 0 A) (F0 m 24 ls [.int y482720]) := by
    intro y482720 b482721 H locs ls hW hF hl
    exact e_Z E hW rfl (by omega) ⟨⟨_, rfl, (by first | omega | trivial)⟩, hF⟩ dX4_isAbout_24
  refine q_if_eq (tgt := 19) hx hb dX4_isAbout_6 (by decide) rfl (fun c482723 => ?_) (fun c482723 => ?_)
  · refine lv_iconst (v := 1) hx hb dX4_isAbout_19 (by decide) ?_
    refine lv_goto (tgt := 24) hx hb dX4_isAbout_20 (by decide) ?_
    exact J482722 1 (by decide) _ _ _ hW hF (lv_sub hl [0, 1] rfl)
  · refine lv_aload_n hx hb dX4_isAbout_9 rfl (lv_at hl 0 rfl) ?_
    refine fg_RX4_27 E hW rh0 dX4_isAbout_10 (fun a482724 m482725 r482726 => ?_)
    obtain rfl : a482707 = a482724 := (m482708).symm.trans m482725
    refine lv_iload_n hx hb dX4_isAbout_13 rfl (lv_at hl 1 rfl) ?_
    refine gl_346 E hW r482709 ⟨by omega, by omega⟩ dX4_isAbout_14 (fun y482727 m482728 => ?_)
    obtain rfl : y482710 = y482727 := (m482711).symm.trans m482728
    refine lv_iconst (v := 1) hx hb dX4_isAbout_15 (by decide) ?_
    refine q_icmp_ne (Y := 1) (tgt := 23) hx hb dX4_isAbout_16 (by decide) rfl rfl (fun c482730 => ?_) (fun c482730 => ?_)
    · refine lv_iconst (v := 0) hx hb dX4_isAbout_23 (by decide) ?_
      exact J482722 0 (by decide) _ _ _ hW hF (lv_sub hl [0, 1] rfl)
    · refine lv_iconst (v := 1) hx hb dX4_isAbout_19 (by decide) ?_
      refine lv_goto (tgt := 24) hx hb dX4_isAbout_20 (by decide) ?_
      exact J482722 1 (by decide) _ _ _ hW hF (lv_sub hl [0, 1] rfl)
def ms_X4_kinOf : List (Nat × Nat) := []
def po_X4_kinOf (kp : Nat → Nat) (L : List Nat) (f0 : Nat → va_E) (h0 : Nat) (u1 : Int32) : Option Value → (Nat → va_E) → Prop := fun v f => (∃ r : Int32, v = some (.int r) ∧ (True)) ∧ FM kp L ms_X4_kinOf f0 f
set_option maxHeartbeats 4000000 in
set_option maxRecDepth 100000 in
theorem c_X4_kinOf (l : Launch) (G : va_G) (cI cJ cZ cD cR cT : ClassId) (kp : Nat → Nat) (L : List Nat) (f0 : Nat → va_E) (hTH : TH cI cJ cZ cD cR cT kp L f0) (sz : Nat) (h0 : Nat) (u1 : Int32) (rh0 : RK kp L h0 4) (pu1 : (0 : Int) ≤ u1.toInt ∧ u1.toInt ≤ 39) : Met l yX4_kinOf (Cond.code yX4_kinOf cX4_kinOf 4 (some .int) :: wTab) ({ frames := 1, cells := 0, slots := 0, locals := 40 }) (va_Pc [.ref h0, .int u1] (PreW G (tys6 cI cJ cZ cD cR cT) (va_pl L f0) sz)) (QT (po_X4_kinOf kp L f0 h0 u1) G cI cJ cZ cD cR cT (va_A (va_pl L f0) sz) kp L) 0 0 (va_A (va_pl L f0) sz) := by
  refine metT (by decide) (Nat.le_of_ble_eq_true rfl) hTH ?_
  intro p e s m below meth c A ls E hW hl
  obtain ⟨hx, hb, -, hml, hown, hts, -, -, -⟩ := id E
  have hF : FM kp L ms_X4_kinOf f0 f0 := FM.rf
  have hl : lv_has ls 4 [(0, .ref h0), (1, .int u1)] := hl
  refine lv_iconst (v := 0) hx hb dX4_kinOf_0 (by decide) ?_
  refine lv_istore_n (lv' := [(2, .int 0), (0, .ref h0), (1, .int u1)]) hx hb dX4_kinOf_1 rfl hl (by decide) rfl (fun ls hl => ?_)
  refine lv_iconst (v := 0) hx hb dX4_kinOf_2 (by decide) ?_
  refine lv_istore_n (lv' := [(3, .int 0), (2, .int 0), (0, .ref h0), (1, .int u1)]) hx hb dX4_kinOf_3 rfl hl (by decide) rfl (fun ls hl => ?_)
  have L486381 : ∀ (n : Nat), ∀ (y486378 : Int32) (y486380 : Int32) (b486379 : (0 : Int) ≤ y486378.toInt ∧ y486378.toInt ≤ 40) (hm : (41 : Int) - y486378.toInt ≤ n) (H : Heap) (locs : List Loc) (ls : Array Slot), WS G cI cJ cZ cD cR cT A kp L f0 s H locs → FM kp L ms_X4_kinOf f0 f0 → lv_has ls 4 [(3, .int y486378), (2, .int y486380), (0, .ref h0), (1, .int u1)] → W p l e ({ frames := 1, cells := 0, slots := 0, locals := 40 }) s m ([.ref h0, .int u1] : List Value).toArray below meth c H locs 0 0 (MQ below (QT (po_X4_kinOf kp L f0 h0 u1) G cI cJ cZ cD cR cT A kp L) ([.ref h0, .int u1] : List Value).toArray s 0 0 A) (F0 m 4 ls []) := by
    intro n
    induction n with
    | zero =>
      intro y486378 y486380 b486379 hm H locs ls hW hF hl
      have hz := i32_b y486378
      exfalso; omega
    | succ n ih =>
      intro y486378 y486380 b486379 hm H locs ls hW hF hl
      have ih4 := ih
      refine lv_iload_n hx hb dX4_kinOf_4 rfl (lv_at hl 0 rfl) ?_
      refine lv_aload_n hx hb dX4_kinOf_5 rfl (lv_at hl 2 rfl) ?_
      refine fg_RX4_39 E hW rh0 dX4_kinOf_6 (fun y486382 m486383 b486384 => ?_)
      refine q_icmp_ge (tgt := 50) hx hb dX4_kinOf_9 (by decide) rfl rfl (fun c486432 => ?_) (fun c486432 => ?_)
      · refine lv_iload_n hx hb dX4_kinOf_50 rfl (lv_at hl 1 rfl) ?_
        exact e_I E hW rfl ⟨⟨_, rfl, trivial⟩, hF⟩ dX4_kinOf_51
      · refine lv_iload_n hx hb dX4_kinOf_12 rfl (lv_at hl 0 rfl) ?_
        refine lv_iload_n hx hb dX4_kinOf_13 rfl (lv_at hl 3 rfl) ?_
        have J486455 : ∀ (y486454 : Int32) (H : Heap) (locs : List Loc) (ls : Array Slot), WS G cI cJ cZ cD cR cT A kp L f0 s H locs → FM kp L ms_X4_kinOf f0 f0 → lv_has ls 4 [(3, .int y486378), (2, .int y486454), (0, .ref h0), (1, .int u1)] → W p l e ({ frames := 1, cells := 0, slots := 0, locals := 40 }) s m ([.ref h0, .int u1] : List Value).toArray below meth c H locs 0 0 (MQ below (QT (po_X4_kinOf kp L f0 h0 u1) G cI cJ cZ cD cR cT A kp L) ([.ref h0, .int u1] : List Value).toArray s 0 0 A) (F0 m 44 ls []) := by
          intro y486454 H locs ls hW hF hl
          refine q_iinc hx hb dX4_kinOf_44 hl (k := 0) rfl rfl rfl (by omega) (by decide) (fun i486456 ls h486457 hl => ?_)
          have hl : lv_has ls 4 [(3, .int i486456), (2, .int y486454), (0, .ref h0), (1, .int u1)] := hl
          refine lv_goto (tgt := 4) hx hb dX4_kinOf_47 (by decide) ?_
          exact ih4 i486456 y486454 (by omega) (by omega) _ _ _ hW hF (lv_sub hl [0, 1, 2, 3] rfl)
        refine q_icmp_eq (tgt := 44) hx hb dX4_kinOf_14 (by decide) rfl rfl (fun c486458 => ?_) (fun c486458 => ?_)
        · exact J486455 y486380  _ _ _ hW hF (lv_sub hl [0, 1, 2, 3] rfl)
        · refine lv_aload_n hx hb dX4_kinOf_17 rfl (lv_at hl 2 rfl) ?_
          refine fg_RX4_9 E hW rh0 dX4_kinOf_18 (fun a486459 m486460 r486461 => ?_)
          refine lv_iload_n hx hb dX4_kinOf_21 rfl (lv_at hl 0 rfl) ?_
          refine gl_341 E hW r486461 ⟨by omega, by omega⟩ dX4_kinOf_22 (fun y486462 m486463 => ?_)
          refine lv_aload_n hx hb dX4_kinOf_23 rfl (lv_at hl 2 rfl) ?_
          refine fg_RX4_9 E hW rh0 dX4_kinOf_24 (fun a486465 m486466 r486467 => ?_)
          obtain rfl : a486459 = a486465 := (m486460).symm.trans m486466
          refine lv_iload_n hx hb dX4_kinOf_27 rfl (lv_at hl 3 rfl) ?_
          refine gl_341 E hW r486461 ⟨by omega, by omega⟩ dX4_kinOf_28 (fun y486468 m486469 => ?_)
          refine q_icmp_ne (tgt := 44) hx hb dX4_kinOf_29 (by decide) rfl rfl (fun c486471 => ?_) (fun c486471 => ?_)
          · exact J486455 y486380  _ _ _ hW hF (lv_sub hl [0, 1, 2, 3] rfl)
          · refine lv_aload_n hx hb dX4_kinOf_32 rfl (lv_at hl 2 rfl) ?_
            refine fg_RX4_27 E hW rh0 dX4_kinOf_33 (fun a486472 m486473 r486474 => ?_)
            refine lv_iload_n hx hb dX4_kinOf_36 rfl (lv_at hl 0 rfl) ?_
            refine gl_346 E hW r486474 ⟨by omega, by omega⟩ dX4_kinOf_37 (fun y486475 m486476 => ?_)
            refine q_if_ne (tgt := 44) hx hb dX4_kinOf_38 (by decide) rfl (fun c486478 => ?_) (fun c486478 => ?_)
            · exact J486455 y486380  _ _ _ hW hF (lv_sub hl [0, 1, 2, 3] rfl)
            · refine u_iinc hx hb dX4_kinOf_41 hl (k := 1) rfl (by decide) (fun i486479 ls hl => ?_)
              have hl : lv_has ls 4 [(2, .int i486479), (3, .int y486378), (0, .ref h0), (1, .int u1)] := hl
              exact J486455 i486479  _ _ _ hW hF (lv_sub hl [1, 0, 2, 3] rfl)
  have hk486480 : (0 : Int32).toInt = 0 := rfl
  have hk486481 : (0 : Int32).toInt = 0 := rfl
  exact L486381 41 0 0 (by decide) (by omega) _ _ _ hW hF (lv_sub hl [0, 1, 2, 3] rfl)
def ms_X4_keepsBan : List (Nat × Nat) := []
def po_X4_keepsBan (kp : Nat → Nat) (L : List Nat) (f0 : Nat → va_E) (h0 : Nat) (u1 : Int32) (u2 : Int32) (u3 : Int32) : Option Value → (Nat → va_E) → Prop := fun v f => (∃ r : Int32, v = some (.int r) ∧ ((0 : Int) ≤ r.toInt ∧ r.toInt ≤ 1)) ∧ FM kp L ms_X4_keepsBan f0 f
set_option maxHeartbeats 4000000 in
set_option maxRecDepth 100000 in
theorem c_X4_keepsBan (l : Launch) (G : va_G) (cI cJ cZ cD cR cT : ClassId) (kp : Nat → Nat) (L : List Nat) (f0 : Nat → va_E) (hTH : TH cI cJ cZ cD cR cT kp L f0) (sz : Nat) (h0 : Nat) (u1 : Int32) (u2 : Int32) (u3 : Int32) (rh0 : RK kp L h0 4) : Met l yX4_keepsBan (Cond.code yX4_keepsBan cX4_keepsBan 6 (some .boolean) :: wTab) ({ frames := 2, cells := 0, slots := 0, locals := 61 }) (va_Pc [.ref h0, .int u1, .int u2, .int u3] (PreW G (tys6 cI cJ cZ cD cR cT) (va_pl L f0) sz)) (QT (po_X4_keepsBan kp L f0 h0 u1 u2 u3) G cI cJ cZ cD cR cT (va_A (va_pl L f0) sz) kp L) 0 0 (va_A (va_pl L f0) sz) := by
  refine metT (by decide) (Nat.le_of_ble_eq_true rfl) hTH ?_
  intro p e s m below meth c A ls E hW hl
  obtain ⟨hx, hb, -, hml, hown, hts, -, -, -⟩ := id E
  have hF : FM kp L ms_X4_keepsBan f0 f0 := FM.rf
  have hl : lv_has ls 6 [(0, .ref h0), (1, .int u1), (2, .int u2), (3, .int u3)] := hl
  refine lv_aload_n hx hb dX4_keepsBan_0 rfl (lv_at hl 0 rfl) ?_
  refine fg_RX4_9 E hW rh0 dX4_keepsBan_1 (fun a486482 m486483 r486484 => ?_)
  refine lv_iload_n hx hb dX4_keepsBan_4 rfl (lv_at hl 1 rfl) ?_
  refine gl_341 E hW r486484 ⟨by omega, by omega⟩ dX4_keepsBan_5 (fun y486485 m486486 => ?_)
  refine lv_aload_n hx hb dX4_keepsBan_6 rfl (lv_at hl 0 rfl) ?_
  refine fg_RX4_9 E hW rh0 dX4_keepsBan_7 (fun a486488 m486489 r486490 => ?_)
  obtain rfl : a486482 = a486488 := (m486483).symm.trans m486489
  refine lv_iload_n hx hb dX4_keepsBan_10 rfl (lv_at hl 2 rfl) ?_
  refine gl_341 E hW r486484 ⟨by omega, by omega⟩ dX4_keepsBan_11 (fun y486491 m486492 => ?_)
  refine q_icmp_ne (tgt := 17) hx hb dX4_keepsBan_12 (by decide) rfl rfl (fun c486494 => ?_) (fun c486494 => ?_)
  · refine lv_iload_n hx hb dX4_keepsBan_17 rfl (lv_at hl 1 rfl) ?_
    refine lv_istore (lv' := [(4, .int u1), (0, .ref h0), (1, .int u1), (2, .int u2), (3, .int u3)]) hx hb dX4_keepsBan_18 hl (by decide) rfl (fun ls hl => ?_)
    refine lv_iconst (v := 0) hx hb dX4_keepsBan_20 (by decide) ?_
    refine lv_istore (lv' := [(5, .int 0), (4, .int u1), (0, .ref h0), (1, .int u1), (2, .int u2), (3, .int u3)]) hx hb dX4_keepsBan_21 hl (by decide) rfl (fun ls hl => ?_)
    have L487038 : ∀ (n : Nat), ∀ (y487035 : Int32) (y487037 : Int32) (b487036 : (0 : Int) ≤ y487035.toInt ∧ y487035.toInt ≤ 41) (hm : (42 : Int) - y487035.toInt ≤ n) (H : Heap) (locs : List Loc) (ls : Array Slot), WS G cI cJ cZ cD cR cT A kp L f0 s H locs → FM kp L ms_X4_keepsBan f0 f0 → lv_has ls 6 [(5, .int y487035), (4, .int y487037), (0, .ref h0), (1, .int u1), (2, .int u2), (3, .int u3)] → W p l e ({ frames := 2, cells := 0, slots := 0, locals := 61 }) s m ([.ref h0, .int u1, .int u2, .int u3] : List Value).toArray below meth c H locs 0 0 (MQ below (QT (po_X4_keepsBan kp L f0 h0 u1 u2 u3) G cI cJ cZ cD cR cT A kp L) ([.ref h0, .int u1, .int u2, .int u3] : List Value).toArray s 0 0 A) (F0 m 23 ls []) := by
      intro n
      induction n with
      | zero =>
        intro y487035 y487037 b487036 hm H locs ls hW hF hl
        have hz := i32_b y487035
        exfalso; omega
      | succ n ih =>
        intro y487035 y487037 b487036 hm H locs ls hW hF hl
        have ih23 := ih
        refine lv_iload hx hb dX4_keepsBan_23 (lv_at hl 0 rfl) ?_
        refine lv_bipush (v := 40) hx hb dX4_keepsBan_25 (by decide) ?_
        refine q_icmp_gt (Y := 40) (tgt := 67) hx hb dX4_keepsBan_27 (by decide) rfl rfl (fun c487039 => ?_) (fun c487039 => ?_)
        · refine lv_iconst (v := 0) hx hb dX4_keepsBan_67 (by decide) ?_
          exact e_Z E hW rfl (by decide) ⟨⟨_, rfl, (by have hk : (0 : Int32).toInt = 0 := rfl; first | decide | omega)⟩, hF⟩ dX4_keepsBan_68
        · refine lv_aload_n hx hb dX4_keepsBan_30 rfl (lv_at hl 2 rfl) ?_
          refine lv_iload hx hb dX4_keepsBan_31 (lv_at hl 1 rfl) ?_
          refine t_callV (As := [.int y487037]) (rest := []) E hW (c_X4_has l G cI cJ cZ cD cR cT kp L f0 hW.2.2.2 _ h0 y487037 rh0) rh0 (by decide) rfl wk_X4_has tw_1188 ⟨by decide, by decide, by decide⟩ ⟨Nat.le_of_ble_eq_true rfl, Nat.le_of_ble_eq_true rfl⟩ ⟨rfl, rfl⟩ hl.1 rfl (by decide) dX4_keepsBan_33 ⟨Nat.le_of_ble_eq_true rfl, Nat.le_of_ble_eq_true rfl⟩ (fun v487040 f487041 H locs q487042 hW => ?_)
          obtain ⟨⟨x487044, rfl, p487045⟩, g487043⟩ := q487042
          have hF := FM.tr hF g487043 rfl
          refine q_if_eq (tgt := 67) hx hb dX4_keepsBan_36 (by decide) rfl (fun c487046 => ?_) (fun c487046 => ?_)
          · clear p487045
            refine lv_iconst (v := 0) hx hb dX4_keepsBan_67 (by decide) ?_
            exact e_Z E hW rfl (by decide) ⟨⟨_, rfl, (by have hk : (0 : Int32).toInt = 0 := rfl; first | decide | omega)⟩, hF⟩ dX4_keepsBan_68
          · have q487047 : 0 ≤ y487037.toInt ∧ y487037.toInt ≤ 39 := by omega
            clear p487045
            refine lv_aload_n hx hb dX4_keepsBan_39 rfl (lv_at hl 2 rfl) ?_
            refine fg_RX4_18 E hW rh0 dX4_keepsBan_40 (fun a487048 m487049 r487050 => ?_)
            refine lv_iload hx hb dX4_keepsBan_43 (lv_at hl 1 rfl) ?_
            refine gl_343 E hW r487050 ⟨by omega, by omega⟩ dX4_keepsBan_45 (fun y487051 m487052 => ?_)
            refine lv_iload_n hx hb dX4_keepsBan_46 rfl (lv_at hl 5 rfl) ?_
            refine q_icmp_lt (tgt := 52) hx hb dX4_keepsBan_47 (by decide) rfl rfl (fun c487054 => ?_) (fun c487054 => ?_)
            · refine lv_aload_n hx hb dX4_keepsBan_52 rfl (lv_at hl 2 rfl) ?_
              refine fg_RX4_21 E hW rh0 dX4_keepsBan_53 (fun a487055 m487056 r487057 => ?_)
              refine lv_iload hx hb dX4_keepsBan_56 (lv_at hl 1 rfl) ?_
              refine gl_344 E hW r487057 ⟨by omega, by omega⟩ dX4_keepsBan_58 (fun y487058 m487059 b487060 => ?_)
              refine lv_istore (lv' := [(4, .int y487058), (5, .int y487035), (0, .ref h0), (1, .int u1), (2, .int u2), (3, .int u3)]) hx hb dX4_keepsBan_59 hl (by decide) rfl (fun ls hl => ?_)
              refine q_iinc hx hb dX4_keepsBan_61 hl (k := 1) rfl rfl rfl (by omega) (by decide) (fun i487061 ls h487062 hl => ?_)
              have hl : lv_has ls 6 [(5, .int i487061), (4, .int y487058), (0, .ref h0), (1, .int u1), (2, .int u2), (3, .int u3)] := hl
              refine lv_goto (tgt := 23) hx hb dX4_keepsBan_64 (by decide) ?_
              exact ih23 i487061 y487058 (by omega) (by omega) _ _ _ hW hF (lv_sub hl [0, 1, 2, 3, 4, 5] rfl)
            · refine lv_iconst (v := 1) hx hb dX4_keepsBan_50 (by decide) ?_
              exact e_Z E hW rfl (by decide) ⟨⟨_, rfl, (by have hk : (1 : Int32).toInt = 1 := rfl; first | decide | omega)⟩, hF⟩ dX4_keepsBan_51
    have hk487063 : (0 : Int32).toInt = 0 := rfl
    exact L487038 42 0 u1 (by decide) (by omega) _ _ _ hW hF (lv_sub hl [0, 1, 2, 3, 4, 5] rfl)
  · refine lv_iconst (v := 0) hx hb dX4_keepsBan_15 (by decide) ?_
    exact e_Z E hW rfl (by decide) ⟨⟨_, rfl, (by have hk : (0 : Int32).toInt = 0 := rfl; first | decide | omega)⟩, hF⟩ dX4_keepsBan_16
def ms_X4_maySell : List (Nat × Nat) := []
def po_X4_maySell (kp : Nat → Nat) (L : List Nat) (f0 : Nat → va_E) (h0 : Nat) (u1 : Int32) (u2 : Int32) (u3 : Int32) (u4 : Int32) : Option Value → (Nat → va_E) → Prop := fun v f => (∃ r : Int32, v = some (.int r) ∧ ((0 : Int) ≤ r.toInt ∧ r.toInt ≤ 1)) ∧ FM kp L ms_X4_maySell f0 f
set_option maxHeartbeats 4000000 in
set_option maxRecDepth 100000 in
theorem c_X4_maySell (l : Launch) (G : va_G) (cI cJ cZ cD cR cT : ClassId) (kp : Nat → Nat) (L : List Nat) (f0 : Nat → va_E) (hTH : TH cI cJ cZ cD cR cT kp L f0) (sz : Nat) (h0 : Nat) (u1 : Int32) (u2 : Int32) (u3 : Int32) (u4 : Int32) (rh0 : RK kp L h0 4) : Met l yX4_maySell (Cond.code yX4_maySell cX4_maySell 5 (some .boolean) :: wTab) ({ frames := 3, cells := 0, slots := 0, locals := 86 }) (va_Pc [.ref h0, .int u1, .int u2, .int u3, .int u4] (PreW G (tys6 cI cJ cZ cD cR cT) (va_pl L f0) sz)) (QT (po_X4_maySell kp L f0 h0 u1 u2 u3 u4) G cI cJ cZ cD cR cT (va_A (va_pl L f0) sz) kp L) 0 0 (va_A (va_pl L f0) sz) := by
  refine metT (by decide) (Nat.le_of_ble_eq_true rfl) hTH ?_
  intro p e s m below meth c A ls E hW hl
  obtain ⟨hx, hb, -, hml, hown, hts, -, -, -⟩ := id E
  have hF : FM kp L ms_X4_maySell f0 f0 := FM.rf
  have hl : lv_has ls 5 [(0, .ref h0), (1, .int u1), (2, .int u2), (3, .int u3), (4, .int u4)] := hl
  refine lv_iload_n hx hb dX4_maySell_0 rfl (lv_at hl 1 rfl) ?_
  refine lv_iload_n hx hb dX4_maySell_1 rfl (lv_at hl 2 rfl) ?_
  have J487088 : ∀ (f487085 : Nat → va_E) (y487086 : Int32) (b487087 : (0 : Int) ≤ y487086.toInt ∧ y487086.toInt ≤ 1) (H : Heap) (locs : List Loc) (ls : Array Slot), WS G cI cJ cZ cD cR cT A kp L f487085 s H locs → FM kp L ms_X4_maySell f0 f487085 → lv_has ls 5 [(0, .ref h0), (1, .int u1), (2, .int u2), (3, .int u3), (4, .int u4)] → W p l e ({ frames := 3, cells := 0, slots := 0, locals := 86 }) s m ([.ref h0, .int u1, .int u2, .int u3, .int u4] : List Value).toArray below meth c H locs 0 0 (MQ below (QT (po_X4_maySell kp L f0 h0 u1 u2 u3 u4) G cI cJ cZ cD cR cT A kp L) ([.ref h0, .int u1, .int u2, .int u3, .int u4] : List Value).toArray s 0 0 A) (F0 m 39 ls [.int y487086]) := by
    intro f487085 y487086 b487087 H locs ls hW hF hl
    exact e_Z E hW rfl (by omega) ⟨⟨_, rfl, (by first | omega | trivial)⟩, hF⟩ dX4_maySell_39
  refine q_icmp_eq (tgt := 38) hx hb dX4_maySell_2 (by decide) rfl rfl (fun c487089 => ?_) (fun c487089 => ?_)
  · refine lv_iconst (v := 0) hx hb dX4_maySell_38 (by decide) ?_
    exact J487088 f0 0 (by decide) _ _ _ hW hF (lv_sub hl [0, 1, 2, 3, 4] rfl)
  · refine lv_aload_n hx hb dX4_maySell_5 rfl (lv_at hl 0 rfl) ?_
    refine lv_iload_n hx hb dX4_maySell_6 rfl (lv_at hl 1 rfl) ?_
    refine t_callV (As := [.int u1]) (rest := []) E hW (c_X4_isAbout l G cI cJ cZ cD cR cT kp L f0 hW.2.2.2 _ h0 u1 rh0) rh0 (by decide) rfl wk_X4_isAbout tw_1205 ⟨by decide, by decide, by decide⟩ ⟨Nat.le_of_ble_eq_true rfl, Nat.le_of_ble_eq_true rfl⟩ ⟨rfl, rfl⟩ hl.1 rfl (by decide) dX4_maySell_7 ⟨Nat.le_of_ble_eq_true rfl, Nat.le_of_ble_eq_true rfl⟩ (fun v487090 f487091 H locs q487092 hW => ?_)
    obtain ⟨⟨x487094, rfl, p487095⟩, g487093⟩ := q487092
    have hF := FM.tr hF g487093 rfl
    refine q_if_eq (tgt := 38) hx hb dX4_maySell_10 (by decide) rfl (fun c487096 => ?_) (fun c487096 => ?_)
    · refine lv_iconst (v := 0) hx hb dX4_maySell_38 (by decide) ?_
      exact J487088 f487091 0 (by decide) _ _ _ hW hF (lv_sub hl [0, 1, 2, 3, 4] rfl)
    · refine lv_aload_n hx hb dX4_maySell_13 rfl (lv_at hl 0 rfl) ?_
      refine fg_RX4_15 E hW rh0 dX4_maySell_14 (fun a487097 m487098 r487099 => ?_)
      refine lv_iload_n hx hb dX4_maySell_17 rfl (lv_at hl 1 rfl) ?_
      refine gl_342 E hW r487099 ⟨by omega, by omega⟩ dX4_maySell_18 (fun y487100 m487101 => ?_)
      refine lv_iload_n hx hb dX4_maySell_19 rfl (lv_at hl 3 rfl) ?_
      refine q_icmp_lt (tgt := 38) hx hb dX4_maySell_20 (by decide) rfl rfl (fun c487103 => ?_) (fun c487103 => ?_)
      · refine lv_iconst (v := 0) hx hb dX4_maySell_38 (by decide) ?_
        exact J487088 f487091 0 (by decide) _ _ _ hW hF (lv_sub hl [0, 1, 2, 3, 4] rfl)
      · refine lv_aload_n hx hb dX4_maySell_23 rfl (lv_at hl 0 rfl) ?_
        refine lv_iload_n hx hb dX4_maySell_24 rfl (lv_at hl 1 rfl) ?_
        refine lv_iload_n hx hb dX4_maySell_25 rfl (lv_at hl 2 rfl) ?_
        refine lv_iload hx hb dX4_maySell_26 (lv_at hl 4 rfl) ?_
        refine t_callV (As := [.int u1, .int u2, .int u4]) (rest := []) E hW (c_X4_keepsBan l G cI cJ cZ cD cR cT kp L f487091 hW.2.2.2 _ h0 u1 u2 u4 rh0) rh0 (by decide) rfl wk_X4_keepsBan tw_1206 ⟨by decide, by decide, by decide⟩ ⟨Nat.le_of_ble_eq_true rfl, Nat.le_of_ble_eq_true rfl⟩ ⟨rfl, rfl⟩ hl.1 rfl (by decide) dX4_maySell_28 ⟨Nat.le_of_ble_eq_true rfl, Nat.le_of_ble_eq_true rfl⟩ (fun v487104 f487105 H locs q487106 hW => ?_)
        obtain ⟨⟨x487108, rfl, p487109⟩, g487107⟩ := q487106
        have hF := FM.tr hF g487107 rfl
        refine q_if_ne (tgt := 38) hx hb dX4_maySell_31 (by decide) rfl (fun c487110 => ?_) (fun c487110 => ?_)
        · refine lv_iconst (v := 0) hx hb dX4_maySell_38 (by decide) ?_
          exact J487088 f487105 0 (by decide) _ _ _ hW hF (lv_sub hl [0, 1, 2, 3, 4] rfl)
        · refine lv_iconst (v := 1) hx hb dX4_maySell_34 (by decide) ?_
          refine lv_goto (tgt := 39) hx hb dX4_maySell_35 (by decide) ?_
          exact J487088 f487105 1 (by decide) _ _ _ hW hF (lv_sub hl [0, 1, 2, 3, 4] rfl)
def ms_X4_gain : List (Nat × Nat) := [(342, 0)]
def po_X4_gain (kp : Nat → Nat) (L : List Nat) (f0 : Nat → va_E) (h0 : Nat) (u1 : Int32) (u2 : Int32) : Option Value → (Nat → va_E) → Prop := fun v f => v = none ∧ FM kp L ms_X4_gain f0 f
set_option maxHeartbeats 4000000 in
set_option maxRecDepth 100000 in
theorem c_X4_gain (l : Launch) (G : va_G) (cI cJ cZ cD cR cT : ClassId) (kp : Nat → Nat) (L : List Nat) (f0 : Nat → va_E) (hTH : TH cI cJ cZ cD cR cT kp L f0) (sz : Nat) (h0 : Nat) (u1 : Int32) (u2 : Int32) (rh0 : RK kp L h0 4) (pu1 : (0 : Int) ≤ u1.toInt ∧ u1.toInt ≤ 39) (pu2 : (1 : Int) ≤ u2.toInt ∧ u2.toInt ≤ 2147483647) : Met l yX4_gain (Cond.code yX4_gain cX4_gain 3 none :: wTab) ({ frames := 1, cells := 0, slots := 0, locals := 60 }) (va_Pc [.ref h0, .int u1, .int u2] (PreW G (tys6 cI cJ cZ cD cR cT) (va_pl L f0) sz)) (QT (po_X4_gain kp L f0 h0 u1 u2) G cI cJ cZ cD cR cT (va_A (va_pl L f0) sz) kp L) 0 0 (va_A (va_pl L f0) sz) := by
  refine metT (by decide) (Nat.le_of_ble_eq_true rfl) hTH ?_
  intro p e s m below meth c A ls E hW hl
  obtain ⟨hx, hb, -, hml, hown, hts, -, -, -⟩ := id E
  have hF : FM kp L ms_X4_gain f0 f0 := FM.rf
  have hl : lv_has ls 3 [(0, .ref h0), (1, .int u1), (2, .int u2)] := hl
  refine lv_aload_n hx hb dX4_gain_0 rfl (lv_at hl 0 rfl) ?_
  refine fg_RX4_15 E hW rh0 dX4_gain_1 (fun a487111 m487112 r487113 => ?_)
  refine lv_iload_n hx hb dX4_gain_4 rfl (lv_at hl 1 rfl) ?_
  refine lv_aload_n hx hb dX4_gain_5 rfl (lv_at hl 0 rfl) ?_
  refine fg_RX4_15 E hW rh0 dX4_gain_6 (fun a487114 m487115 r487116 => ?_)
  obtain rfl : a487111 = a487114 := (m487112).symm.trans m487115
  refine lv_iload_n hx hb dX4_gain_9 rfl (lv_at hl 1 rfl) ?_
  refine gl_342 E hW r487113 ⟨by omega, by omega⟩ dX4_gain_10 (fun y487117 m487118 => ?_)
  refine lv_iload_n hx hb dX4_gain_11 rfl (lv_at hl 2 rfl) ?_
  refine u_iadd hx hb dX4_gain_12 (fun x487120 => ?_)
  refine lv_ldc (v := 10000000) hx hb hown (hts _ tw_635) dX4_gain_13 ?_
  refine t_min (Y := 10000000) (own := RX4) E tw_636 ⟨tw_637, tw_115, tw_638⟩ hl.1 ⟨Nat.le_of_ble_eq_true rfl, Nat.le_of_ble_eq_true rfl⟩ ⟨Nat.le_of_ble_eq_true rfl, Nat.le_of_ble_eq_true rfl⟩ rfl rfl dX4_gain_15 (fun x487121 h487122 => ?_)
  refine gs_342 E hW r487113 ⟨by omega, by omega⟩ dX4_gain_18 (fun f487123 H locs e487124 n487125 g487126 hW => ?_)
  have hF := FM.tr hF g487126 rfl
  exact e_V E hW rfl ⟨rfl, hF⟩ dX4_gain_19
def ms_X4_add : List (Nat × Nat) := [(4, 0), (341, 0), (342, 0), (343, 0), (344, 0), (345, 0), (346, 0), (347, 0), (348, 0)]
def po_X4_add (kp : Nat → Nat) (L : List Nat) (f0 : Nat → va_E) (h0 : Nat) (u1 : Int32) (u2 : Int32) (u3 : Int32) : Option Value → (Nat → va_E) → Prop := fun v f => (∃ r : Int32, v = some (.int r) ∧ ((-1 : Int) ≤ r.toInt ∧ r.toInt ≤ 39)) ∧ FM kp L ms_X4_add f0 f
set_option maxHeartbeats 4000000 in
set_option maxRecDepth 100000 in
theorem c_X4_add (l : Launch) (G : va_G) (cI cJ cZ cD cR cT : ClassId) (kp : Nat → Nat) (L : List Nat) (f0 : Nat → va_E) (hTH : TH cI cJ cZ cD cR cT kp L f0) (sz : Nat) (h0 : Nat) (u1 : Int32) (u2 : Int32) (u3 : Int32) (rh0 : RK kp L h0 4) : Met l yX4_add (Cond.code yX4_add cX4_add 5 (some .int) :: wTab) ({ frames := 1, cells := 0, slots := 0, locals := 40 }) (va_Pc [.ref h0, .int u1, .int u2, .int u3] (PreW G (tys6 cI cJ cZ cD cR cT) (va_pl L f0) sz)) (QT (po_X4_add kp L f0 h0 u1 u2 u3) G cI cJ cZ cD cR cT (va_A (va_pl L f0) sz) kp L) 0 0 (va_A (va_pl L f0) sz) := by
  refine metT (by decide) (Nat.le_of_ble_eq_true rfl) hTH ?_
  intro p e s m below meth c A ls E hW hl
  obtain ⟨hx, hb, -, hml, hown, hts, -, -, -⟩ := id E
  have hF : FM kp L ms_X4_add f0 f0 := FM.rf
  have hl : lv_has ls 5 [(0, .ref h0), (1, .int u1), (2, .int u2), (3, .int u3)] := hl
  refine lv_aload_n hx hb dX4_add_0 rfl (lv_at hl 0 rfl) ?_
  refine fg_RX4_39 E hW rh0 dX4_add_1 (fun y487127 m487128 b487129 => ?_)
  refine lv_bipush (v := 40) hx hb dX4_add_4 (by decide) ?_
  refine q_icmp_lt (Y := 40) (tgt := 11) hx hb dX4_add_6 (by decide) rfl rfl (fun c487130 => ?_) (fun c487130 => ?_)
  · refine lv_aload_n hx hb dX4_add_11 rfl (lv_at hl 0 rfl) ?_
    refine fg_RX4_39 E hW rh0 dX4_add_12 (fun y487131 m487132 b487133 => ?_)
    obtain rfl : y487127 = y487131 := (m487128).symm.trans m487132
    refine lv_istore (lv' := [(4, .int y487127), (0, .ref h0), (1, .int u1), (2, .int u2), (3, .int u3)]) hx hb dX4_add_15 hl (by decide) rfl (fun ls hl => ?_)
    refine lv_aload_n hx hb dX4_add_17 rfl (lv_at hl 1 rfl) ?_
    refine fg_RX4_9 E hW rh0 dX4_add_18 (fun a487134 m487135 r487136 => ?_)
    refine lv_iload hx hb dX4_add_21 (lv_at hl 0 rfl) ?_
    refine lv_iload_n hx hb dX4_add_23 rfl (lv_at hl 2 rfl) ?_
    refine gs_341 E hW r487136 ⟨by omega, by omega⟩ dX4_add_24 (fun f487137 H locs e487138 n487139 g487140 hW => ?_)
    have hF := FM.tr hF g487140 rfl
    refine lv_aload_n hx hb dX4_add_25 rfl (lv_at hl 1 rfl) ?_
    refine fg_RX4_15 E hW rh0 dX4_add_26 (fun a487141 m487142 r487143 => ?_)
    refine lv_iload hx hb dX4_add_29 (lv_at hl 0 rfl) ?_
    refine lv_iload_n hx hb dX4_add_31 rfl (lv_at hl 3 rfl) ?_
    refine gs_342 E hW r487143 ⟨by omega, by omega⟩ dX4_add_32 (fun f487144 H locs e487145 n487146 g487147 hW => ?_)
    have hF := FM.tr hF g487147 rfl
    refine lv_aload_n hx hb dX4_add_33 rfl (lv_at hl 1 rfl) ?_
    refine fg_RX4_18 E hW rh0 dX4_add_34 (fun a487148 m487149 r487150 => ?_)
    refine lv_iload hx hb dX4_add_37 (lv_at hl 0 rfl) ?_
    refine lv_iload_n hx hb dX4_add_39 rfl (lv_at hl 4 rfl) ?_
    refine gs_343 E hW r487150 ⟨by omega, by omega⟩ dX4_add_40 (fun f487151 H locs e487152 n487153 g487154 hW => ?_)
    have hF := FM.tr hF g487154 rfl
    refine lv_aload_n hx hb dX4_add_41 rfl (lv_at hl 1 rfl) ?_
    refine fg_RX4_21 E hW rh0 dX4_add_42 (fun a487155 m487156 r487157 => ?_)
    refine lv_iload hx hb dX4_add_45 (lv_at hl 0 rfl) ?_
    refine lv_iconst (v := (-1)) hx hb dX4_add_47 (by decide) ?_
    refine gs_344 E hW r487157 ⟨by omega, by omega⟩ (by decide) dX4_add_48 (fun f487158 H locs e487159 n487160 g487161 hW => ?_)
    have hF := FM.tr hF g487161 rfl
    refine lv_aload_n hx hb dX4_add_49 rfl (lv_at hl 1 rfl) ?_
    refine fg_RX4_24 E hW rh0 dX4_add_50 (fun a487162 m487163 r487164 => ?_)
    refine lv_iload hx hb dX4_add_53 (lv_at hl 0 rfl) ?_
    refine lv_iconst (v := 0) hx hb dX4_add_55 (by decide) ?_
    refine gs_345 E hW r487164 ⟨by omega, by omega⟩ dX4_add_56 (fun f487165 H locs e487166 n487167 g487168 hW => ?_)
    have hF := FM.tr hF g487168 rfl
    refine lv_aload_n hx hb dX4_add_57 rfl (lv_at hl 1 rfl) ?_
    refine fg_RX4_27 E hW rh0 dX4_add_58 (fun a487169 m487170 r487171 => ?_)
    refine lv_iload hx hb dX4_add_61 (lv_at hl 0 rfl) ?_
    refine lv_iconst (v := 0) hx hb dX4_add_63 (by decide) ?_
    refine gs_346 E hW r487171 ⟨by omega, by omega⟩ dX4_add_64 (fun f487172 H locs e487173 n487174 g487175 hW => ?_)
    have hF := FM.tr hF g487175 rfl
    refine lv_aload_n hx hb dX4_add_65 rfl (lv_at hl 1 rfl) ?_
    refine fg_RX4_30 E hW rh0 dX4_add_66 (fun a487176 m487177 r487178 => ?_)
    refine lv_iload hx hb dX4_add_69 (lv_at hl 0 rfl) ?_
    refine lv_iconst (v := (-1)) hx hb dX4_add_71 (by decide) ?_
    refine gs_347 E hW r487178 ⟨by omega, by omega⟩ dX4_add_72 (fun f487179 H locs e487180 n487181 g487182 hW => ?_)
    have hF := FM.tr hF g487182 rfl
    refine lv_aload_n hx hb dX4_add_73 rfl (lv_at hl 1 rfl) ?_
    refine fg_RX4_33 E hW rh0 dX4_add_74 (fun a487183 m487184 r487185 => ?_)
    refine lv_iload hx hb dX4_add_77 (lv_at hl 0 rfl) ?_
    refine lv_iconst (v := 0) hx hb dX4_add_79 (by decide) ?_
    refine gs_348 E hW r487185 ⟨by omega, by omega⟩ dX4_add_80 (fun f487186 H locs e487187 n487188 g487189 hW => ?_)
    have hF := FM.tr hF g487189 rfl
    refine lv_aload_n hx hb dX4_add_81 rfl (lv_at hl 1 rfl) ?_
    refine lv_dup hx hb dX4_add_82 rfl ?_
    refine fg_RX4_39 E hW rh0 dX4_add_83 (fun y487190 m487191 b487192 => ?_)
    obtain rfl : y487127 = y487190 := (((fm_I g487189 rh0 rfl).trans ((fm_I g487182 rh0 rfl).trans ((fm_I g487175 rh0 rfl).trans ((fm_I g487168 rh0 rfl).trans ((fm_I g487161 rh0 rfl).trans ((fm_I g487154 rh0 rfl).trans ((fm_I g487147 rh0 rfl).trans ((fm_I g487140 rh0 rfl).trans m487132))))))))).symm.trans m487191
    refine lv_iconst (v := 1) hx hb dX4_add_86 (by decide) ?_
    refine q_iadd (Y := 1) hx hb dX4_add_87 rfl rfl (by omega) (fun x487193 h487194 => ?_)
    refine fp_RX4_39 E hW rh0 (by omega) dX4_add_88 (fun f487195 H locs e487196 n487197 g487198 hW => ?_)
    have hF := FM.tr hF g487198 rfl
    refine lv_iload hx hb dX4_add_91 (lv_at hl 0 rfl) ?_
    exact e_I E hW rfl ⟨⟨_, rfl, (by first | omega | trivial)⟩, hF⟩ dX4_add_93
  · refine lv_iconst (v := (-1)) hx hb dX4_add_9 (by decide) ?_
    exact e_I E hW rfl ⟨⟨_, rfl, (by have hk : ((-1) : Int32).toInt = -1 := rfl; first | decide | omega)⟩, hF⟩ dX4_add_10
def ms_X4_copyFrom : List (Nat × Nat) := [(4, 0), (341, 0), (342, 0), (343, 0), (344, 0), (345, 0), (346, 0), (347, 0), (348, 0)]
def po_X4_copyFrom (kp : Nat → Nat) (L : List Nat) (f0 : Nat → va_E) (h0 : Nat) (u1 : Nat) : Option Value → (Nat → va_E) → Prop := fun v f => v = none ∧ FM kp L ms_X4_copyFrom f0 f
set_option maxHeartbeats 4000000 in
set_option maxRecDepth 100000 in
theorem c_X4_copyFrom (l : Launch) (G : va_G) (cI cJ cZ cD cR cT : ClassId) (kp : Nat → Nat) (L : List Nat) (f0 : Nat → va_E) (hTH : TH cI cJ cZ cD cR cT kp L f0) (sz : Nat) (h0 : Nat) (u1 : Nat) (rh0 : RK kp L h0 4) (ru1 : RK kp L u1 4) : Met l yX4_copyFrom (Cond.code yX4_copyFrom cX4_copyFrom 2 none :: wTab) ({ frames := 1, cells := 0, slots := 0, locals := 60 }) (va_Pc [.ref h0, .ref u1] (PreW G (tys6 cI cJ cZ cD cR cT) (va_pl L f0) sz)) (QT (po_X4_copyFrom kp L f0 h0 u1) G cI cJ cZ cD cR cT (va_A (va_pl L f0) sz) kp L) 0 0 (va_A (va_pl L f0) sz) := by
  refine metT (by decide) (Nat.le_of_ble_eq_true rfl) hTH ?_
  intro p e s m below meth c A ls E hW hl
  obtain ⟨hx, hb, -, hml, hown, hts, -, -, -⟩ := id E
  have hF : FM kp L ms_X4_copyFrom f0 f0 := FM.rf
  have hl : lv_has ls 2 [(0, .ref h0), (1, .ref u1)] := hl
  refine lv_aload_n hx hb dX4_copyFrom_0 rfl (lv_at hl 0 rfl) ?_
  refine lv_aload_n hx hb dX4_copyFrom_1 rfl (lv_at hl 1 rfl) ?_
  refine fg_RX4_39 E hW ru1 dX4_copyFrom_2 (fun y487199 m487200 b487201 => ?_)
  refine fp_RX4_39 E hW rh0 (by omega) dX4_copyFrom_5 (fun f487202 H locs e487203 n487204 g487205 hW => ?_)
  have hF := FM.tr hF g487205 rfl
  refine lv_aload_n hx hb dX4_copyFrom_8 rfl (lv_at hl 1 rfl) ?_
  refine fg_RX4_9 E hW ru1 dX4_copyFrom_9 (fun a487206 m487207 r487208 => ?_)
  refine lv_iconst (v := 0) hx hb dX4_copyFrom_12 (by decide) ?_
  refine lv_aload_n hx hb dX4_copyFrom_13 rfl (lv_at hl 0 rfl) ?_
  refine fg_RX4_9 E hW rh0 dX4_copyFrom_14 (fun a487209 m487210 r487211 => ?_)
  refine lv_iconst (v := 0) hx hb dX4_copyFrom_17 (by decide) ?_
  refine lv_bipush (v := 40) hx hb dX4_copyFrom_18 (by decide) ?_
  refine t_copy (N := 40) (n0 := 40) (n1 := 40) E hW tw_1293 ⟨tw_1004, tw_1003, tw_122⟩ rfl hl.1 r487208 r487211 (by decide) rfl (by decide) rfl rfl (by decide) rfl (by decide) (by decide) (by decide) (fun _ _ => trivial) ⟨Nat.le_of_ble_eq_true rfl, Nat.le_of_ble_eq_true rfl⟩ dX4_copyFrom_20 (fun f487212 H locs n487214 g487215 hW => ?_)
  have hF := FM.tr hF g487215 rfl
  refine lv_aload_n hx hb dX4_copyFrom_23 rfl (lv_at hl 1 rfl) ?_
  refine fg_RX4_15 E hW ru1 dX4_copyFrom_24 (fun a487216 m487217 r487218 => ?_)
  refine lv_iconst (v := 0) hx hb dX4_copyFrom_27 (by decide) ?_
  refine lv_aload_n hx hb dX4_copyFrom_28 rfl (lv_at hl 0 rfl) ?_
  refine fg_RX4_15 E hW rh0 dX4_copyFrom_29 (fun a487219 m487220 r487221 => ?_)
  refine lv_iconst (v := 0) hx hb dX4_copyFrom_32 (by decide) ?_
  refine lv_bipush (v := 40) hx hb dX4_copyFrom_33 (by decide) ?_
  refine t_copy (N := 40) (n0 := 40) (n1 := 40) E hW tw_1293 ⟨tw_1004, tw_1003, tw_122⟩ rfl hl.1 r487218 r487221 (by decide) rfl (by decide) rfl rfl (by decide) rfl (by decide) (by decide) (by decide) (fun _ _ => trivial) ⟨Nat.le_of_ble_eq_true rfl, Nat.le_of_ble_eq_true rfl⟩ dX4_copyFrom_35 (fun f487222 H locs n487224 g487225 hW => ?_)
  have hF := FM.tr hF g487225 rfl
  refine lv_aload_n hx hb dX4_copyFrom_38 rfl (lv_at hl 1 rfl) ?_
  refine fg_RX4_18 E hW ru1 dX4_copyFrom_39 (fun a487226 m487227 r487228 => ?_)
  refine lv_iconst (v := 0) hx hb dX4_copyFrom_42 (by decide) ?_
  refine lv_aload_n hx hb dX4_copyFrom_43 rfl (lv_at hl 0 rfl) ?_
  refine fg_RX4_18 E hW rh0 dX4_copyFrom_44 (fun a487229 m487230 r487231 => ?_)
  refine lv_iconst (v := 0) hx hb dX4_copyFrom_47 (by decide) ?_
  refine lv_bipush (v := 40) hx hb dX4_copyFrom_48 (by decide) ?_
  refine t_copy (N := 40) (n0 := 40) (n1 := 40) E hW tw_1293 ⟨tw_1004, tw_1003, tw_122⟩ rfl hl.1 r487228 r487231 (by decide) rfl (by decide) rfl rfl (by decide) rfl (by decide) (by decide) (by decide) (fun _ _ => trivial) ⟨Nat.le_of_ble_eq_true rfl, Nat.le_of_ble_eq_true rfl⟩ dX4_copyFrom_50 (fun f487232 H locs n487234 g487235 hW => ?_)
  have hF := FM.tr hF g487235 rfl
  refine lv_aload_n hx hb dX4_copyFrom_53 rfl (lv_at hl 1 rfl) ?_
  refine fg_RX4_21 E hW ru1 dX4_copyFrom_54 (fun a487236 m487237 r487238 => ?_)
  refine lv_iconst (v := 0) hx hb dX4_copyFrom_57 (by decide) ?_
  refine lv_aload_n hx hb dX4_copyFrom_58 rfl (lv_at hl 0 rfl) ?_
  refine fg_RX4_21 E hW rh0 dX4_copyFrom_59 (fun a487239 m487240 r487241 => ?_)
  refine lv_iconst (v := 0) hx hb dX4_copyFrom_62 (by decide) ?_
  refine lv_bipush (v := 40) hx hb dX4_copyFrom_63 (by decide) ?_
  refine t_copy (N := 40) (n0 := 40) (n1 := 40) E hW tw_1293 ⟨tw_1004, tw_1003, tw_122⟩ rfl hl.1 r487238 r487241 (by decide) rfl (by decide) rfl rfl (by decide) rfl (by decide) (by decide) (by decide) (fun h0 h1 => AB_cpy h0 h1) ⟨Nat.le_of_ble_eq_true rfl, Nat.le_of_ble_eq_true rfl⟩ dX4_copyFrom_65 (fun f487242 H locs n487244 g487245 hW => ?_)
  have hF := FM.tr hF g487245 rfl
  refine lv_aload_n hx hb dX4_copyFrom_68 rfl (lv_at hl 1 rfl) ?_
  refine fg_RX4_24 E hW ru1 dX4_copyFrom_69 (fun a487246 m487247 r487248 => ?_)
  refine lv_iconst (v := 0) hx hb dX4_copyFrom_72 (by decide) ?_
  refine lv_aload_n hx hb dX4_copyFrom_73 rfl (lv_at hl 0 rfl) ?_
  refine fg_RX4_24 E hW rh0 dX4_copyFrom_74 (fun a487249 m487250 r487251 => ?_)
  refine lv_iconst (v := 0) hx hb dX4_copyFrom_77 (by decide) ?_
  refine lv_bipush (v := 40) hx hb dX4_copyFrom_78 (by decide) ?_
  refine t_copy (N := 40) (n0 := 40) (n1 := 40) E hW tw_1293 ⟨tw_1004, tw_1003, tw_122⟩ rfl hl.1 r487248 r487251 (by decide) rfl (by decide) rfl rfl (by decide) rfl (by decide) (by decide) (by decide) (fun _ _ => trivial) ⟨Nat.le_of_ble_eq_true rfl, Nat.le_of_ble_eq_true rfl⟩ dX4_copyFrom_80 (fun f487252 H locs n487254 g487255 hW => ?_)
  have hF := FM.tr hF g487255 rfl
  refine lv_aload_n hx hb dX4_copyFrom_83 rfl (lv_at hl 1 rfl) ?_
  refine fg_RX4_27 E hW ru1 dX4_copyFrom_84 (fun a487256 m487257 r487258 => ?_)
  refine lv_iconst (v := 0) hx hb dX4_copyFrom_87 (by decide) ?_
  refine lv_aload_n hx hb dX4_copyFrom_88 rfl (lv_at hl 0 rfl) ?_
  refine fg_RX4_27 E hW rh0 dX4_copyFrom_89 (fun a487259 m487260 r487261 => ?_)
  refine lv_iconst (v := 0) hx hb dX4_copyFrom_92 (by decide) ?_
  refine lv_bipush (v := 40) hx hb dX4_copyFrom_93 (by decide) ?_
  refine t_copy (N := 40) (n0 := 40) (n1 := 40) E hW tw_1293 ⟨tw_1004, tw_1003, tw_122⟩ rfl hl.1 r487258 r487261 (by decide) rfl (by decide) rfl rfl (by decide) rfl (by decide) (by decide) (by decide) (fun _ _ => trivial) ⟨Nat.le_of_ble_eq_true rfl, Nat.le_of_ble_eq_true rfl⟩ dX4_copyFrom_95 (fun f487262 H locs n487264 g487265 hW => ?_)
  have hF := FM.tr hF g487265 rfl
  refine lv_aload_n hx hb dX4_copyFrom_98 rfl (lv_at hl 1 rfl) ?_
  refine fg_RX4_30 E hW ru1 dX4_copyFrom_99 (fun a487266 m487267 r487268 => ?_)
  refine lv_iconst (v := 0) hx hb dX4_copyFrom_102 (by decide) ?_
  refine lv_aload_n hx hb dX4_copyFrom_103 rfl (lv_at hl 0 rfl) ?_
  refine fg_RX4_30 E hW rh0 dX4_copyFrom_104 (fun a487269 m487270 r487271 => ?_)
  refine lv_iconst (v := 0) hx hb dX4_copyFrom_107 (by decide) ?_
  refine lv_bipush (v := 40) hx hb dX4_copyFrom_108 (by decide) ?_
  refine t_copy (N := 40) (n0 := 40) (n1 := 40) E hW tw_1293 ⟨tw_1004, tw_1003, tw_122⟩ rfl hl.1 r487268 r487271 (by decide) rfl (by decide) rfl rfl (by decide) rfl (by decide) (by decide) (by decide) (fun _ _ => trivial) ⟨Nat.le_of_ble_eq_true rfl, Nat.le_of_ble_eq_true rfl⟩ dX4_copyFrom_110 (fun f487272 H locs n487274 g487275 hW => ?_)
  have hF := FM.tr hF g487275 rfl
  refine lv_aload_n hx hb dX4_copyFrom_113 rfl (lv_at hl 1 rfl) ?_
  refine fg_RX4_33 E hW ru1 dX4_copyFrom_114 (fun a487276 m487277 r487278 => ?_)
  refine lv_iconst (v := 0) hx hb dX4_copyFrom_117 (by decide) ?_
  refine lv_aload_n hx hb dX4_copyFrom_118 rfl (lv_at hl 0 rfl) ?_
  refine fg_RX4_33 E hW rh0 dX4_copyFrom_119 (fun a487279 m487280 r487281 => ?_)
  refine lv_iconst (v := 0) hx hb dX4_copyFrom_122 (by decide) ?_
  refine lv_bipush (v := 40) hx hb dX4_copyFrom_123 (by decide) ?_
  refine t_copy (N := 40) (n0 := 40) (n1 := 40) E hW tw_1293 ⟨tw_1004, tw_1003, tw_122⟩ rfl hl.1 r487278 r487281 (by decide) rfl (by decide) rfl rfl (by decide) rfl (by decide) (by decide) (by decide) (fun _ _ => trivial) ⟨Nat.le_of_ble_eq_true rfl, Nat.le_of_ble_eq_true rfl⟩ dX4_copyFrom_125 (fun f487282 H locs n487284 g487285 hW => ?_)
  have hF := FM.tr hF g487285 rfl
  exact e_V E hW rfl ⟨rfl, hF⟩ dX4_copyFrom_128
def ms_X1_has : List (Nat × Nat) := []
def po_X1_has (kp : Nat → Nat) (L : List Nat) (f0 : Nat → va_E) (h0 : Nat) (u1 : Int32) : Option Value → (Nat → va_E) → Prop := fun v f => (∃ r : Int32, v = some (.int r) ∧ ((r.toInt = 1 ∧ 0 ≤ u1.toInt ∧ u1.toInt ≤ 39) ∨ (r.toInt = 0 ∧ True))) ∧ FM kp L ms_X1_has f0 f
set_option maxHeartbeats 4000000 in
set_option maxRecDepth 100000 in
theorem c_X1_has (l : Launch) (G : va_G) (cI cJ cZ cD cR cT : ClassId) (kp : Nat → Nat) (L : List Nat) (f0 : Nat → va_E) (hTH : TH cI cJ cZ cD cR cT kp L f0) (sz : Nat) (h0 : Nat) (u1 : Int32) (rh0 : RK kp L h0 1) : Met l yX1_has (Cond.code yX1_has cX1_has 2 (some .boolean) :: wTab) ({ frames := 1, cells := 0, slots := 0, locals := 40 }) (va_Pc [.ref h0, .int u1] (PreW G (tys6 cI cJ cZ cD cR cT) (va_pl L f0) sz)) (QT (po_X1_has kp L f0 h0 u1) G cI cJ cZ cD cR cT (va_A (va_pl L f0) sz) kp L) 0 0 (va_A (va_pl L f0) sz) := by
  refine metT (by decide) (Nat.le_of_ble_eq_true rfl) hTH ?_
  intro p e s m below meth c A ls E hW hl
  obtain ⟨hx, hb, -, hml, hown, hts, -, -, -⟩ := id E
  have hF : FM kp L ms_X1_has f0 f0 := FM.rf
  have hl : lv_has ls 2 [(0, .ref h0), (1, .int u1)] := hl
  refine lv_iload_n hx hb dX1_has_0 rfl (lv_at hl 1 rfl) ?_
  refine q_if_lt (tgt := 16) hx hb dX1_has_1 (by decide) rfl (fun c487286 => ?_) (fun c487286 => ?_)
  · refine lv_iconst (v := 0) hx hb dX1_has_16 (by decide) ?_
    exact e_Z E hW rfl (by decide) ⟨⟨_, rfl, (by have hk : (0 : Int32).toInt = 0 := rfl; first | decide | omega)⟩, hF⟩ dX1_has_17
  · refine lv_iload_n hx hb dX1_has_4 rfl (lv_at hl 1 rfl) ?_
    refine lv_aload_n hx hb dX1_has_5 rfl (lv_at hl 0 rfl) ?_
    refine fg_RX1_46 E hW rh0 dX1_has_6 (fun y487287 m487288 b487289 => ?_)
    refine q_icmp_ge (tgt := 16) hx hb dX1_has_9 (by decide) rfl rfl (fun c487290 => ?_) (fun c487290 => ?_)
    · refine lv_iconst (v := 0) hx hb dX1_has_16 (by decide) ?_
      exact e_Z E hW rfl (by decide) ⟨⟨_, rfl, (by have hk : (0 : Int32).toInt = 0 := rfl; first | decide | omega)⟩, hF⟩ dX1_has_17
    · refine lv_iconst (v := 1) hx hb dX1_has_12 (by decide) ?_
      refine lv_goto (tgt := 17) hx hb dX1_has_13 (by decide) ?_
      exact e_Z E hW rfl (by decide) ⟨⟨_, rfl, (by have hk : (1 : Int32).toInt = 1 := rfl; first | decide | omega)⟩, hF⟩ dX1_has_17
def ms_X1_hasEstate : List (Nat × Nat) := []
def po_X1_hasEstate (kp : Nat → Nat) (L : List Nat) (f0 : Nat → va_E) (h0 : Nat) (u1 : Int32) : Option Value → (Nat → va_E) → Prop := fun v f => (∃ r : Int32, v = some (.int r) ∧ ((r.toInt = 1 ∧ 0 ≤ u1.toInt ∧ u1.toInt ≤ 7) ∨ (r.toInt = 0 ∧ True))) ∧ FM kp L ms_X1_hasEstate f0 f
set_option maxHeartbeats 4000000 in
set_option maxRecDepth 100000 in
theorem c_X1_hasEstate (l : Launch) (G : va_G) (cI cJ cZ cD cR cT : ClassId) (kp : Nat → Nat) (L : List Nat) (f0 : Nat → va_E) (hTH : TH cI cJ cZ cD cR cT kp L f0) (sz : Nat) (h0 : Nat) (u1 : Int32) (rh0 : RK kp L h0 1) : Met l yX1_hasEstate (Cond.code yX1_hasEstate cX1_hasEstate 2 (some .boolean) :: wTab) ({ frames := 1, cells := 0, slots := 0, locals := 40 }) (va_Pc [.ref h0, .int u1] (PreW G (tys6 cI cJ cZ cD cR cT) (va_pl L f0) sz)) (QT (po_X1_hasEstate kp L f0 h0 u1) G cI cJ cZ cD cR cT (va_A (va_pl L f0) sz) kp L) 0 0 (va_A (va_pl L f0) sz) := by
  refine metT (by decide) (Nat.le_of_ble_eq_true rfl) hTH ?_
  intro p e s m below meth c A ls E hW hl
  obtain ⟨hx, hb, -, hml, hown, hts, -, -, -⟩ := id E
  have hF : FM kp L ms_X1_hasEstate f0 f0 := FM.rf
  have hl : lv_has ls 2 [(0, .ref h0), (1, .int u1)] := hl
  refine lv_iload_n hx hb dX1_hasEstate_0 rfl (lv_at hl 1 rfl) ?_
  refine q_if_lt (tgt := 16) hx hb dX1_hasEstate_1 (by decide) rfl (fun c487291 => ?_) (fun c487291 => ?_)
  · refine lv_iconst (v := 0) hx hb dX1_hasEstate_16 (by decide) ?_
    exact e_Z E hW rfl (by decide) ⟨⟨_, rfl, (by have hk : (0 : Int32).toInt = 0 := rfl; first | decide | omega)⟩, hF⟩ dX1_hasEstate_17
  · refine lv_iload_n hx hb dX1_hasEstate_4 rfl (lv_at hl 1 rfl) ?_
    refine lv_aload_n hx hb dX1_hasEstate_5 rfl (lv_at hl 0 rfl) ?_
    refine fg_RX1_49 E hW rh0 dX1_hasEstate_6 (fun y487292 m487293 b487294 => ?_)
    refine q_icmp_ge (tgt := 16) hx hb dX1_hasEstate_9 (by decide) rfl rfl (fun c487295 => ?_) (fun c487295 => ?_)
    · refine lv_iconst (v := 0) hx hb dX1_hasEstate_16 (by decide) ?_
      exact e_Z E hW rfl (by decide) ⟨⟨_, rfl, (by have hk : (0 : Int32).toInt = 0 := rfl; first | decide | omega)⟩, hF⟩ dX1_hasEstate_17
    · refine lv_iconst (v := 1) hx hb dX1_hasEstate_12 (by decide) ?_
      refine lv_goto (tgt := 17) hx hb dX1_hasEstate_13 (by decide) ?_
      exact e_Z E hW rfl (by decide) ⟨⟨_, rfl, (by have hk : (1 : Int32).toInt = 1 := rfl; first | decide | omega)⟩, hF⟩ dX1_hasEstate_17
def ms_X1_isHeldBy : List (Nat × Nat) := []
def po_X1_isHeldBy (kp : Nat → Nat) (L : List Nat) (f0 : Nat → va_E) (h0 : Nat) (u1 : Int32) : Option Value → (Nat → va_E) → Prop := fun v f => (∃ r : Int32, v = some (.int r) ∧ ((0 : Int) ≤ r.toInt ∧ r.toInt ≤ 1)) ∧ FM kp L ms_X1_isHeldBy f0 f
set_option maxHeartbeats 4000000 in
set_option maxRecDepth 100000 in
theorem c_X1_isHeldBy (l : Launch) (G : va_G) (cI cJ cZ cD cR cT : ClassId) (kp : Nat → Nat) (L : List Nat) (f0 : Nat → va_E) (hTH : TH cI cJ cZ cD cR cT kp L f0) (sz : Nat) (h0 : Nat) (u1 : Int32) (rh0 : RK kp L h0 1) (pu1 : (-1 : Int) ≤ u1.toInt ∧ u1.toInt ≤ 39) : Met l yX1_isHeldBy (Cond.code yX1_isHeldBy cX1_isHeldBy 3 (some .boolean) :: wTab) ({ frames := 1, cells := 0, slots := 0, locals := 40 }) (va_Pc [.ref h0, .int u1] (PreW G (tys6 cI cJ cZ cD cR cT) (va_pl L f0) sz)) (QT (po_X1_isHeldBy kp L f0 h0 u1) G cI cJ cZ cD cR cT (va_A (va_pl L f0) sz) kp L) 0 0 (va_A (va_pl L f0) sz) := by
  refine metT (by decide) (Nat.le_of_ble_eq_true rfl) hTH ?_
  intro p e s m below meth c A ls E hW hl
  obtain ⟨hx, hb, -, hml, hown, hts, -, -, -⟩ := id E
  have hF : FM kp L ms_X1_isHeldBy f0 f0 := FM.rf
  have hl : lv_has ls 3 [(0, .ref h0), (1, .int u1)] := hl
  refine lv_iconst (v := 0) hx hb dX1_isHeldBy_0 (by decide) ?_
  refine lv_istore_n (lv' := [(2, .int 0), (0, .ref h0), (1, .int u1)]) hx hb dX1_isHeldBy_1 rfl hl (by decide) rfl (fun ls hl => ?_)
  have L487583 : ∀ (n : Nat), ∀ (y487581 : Int32) (b487582 : (0 : Int) ≤ y487581.toInt ∧ y487581.toInt ≤ 40) (hm : (41 : Int) - y487581.toInt ≤ n) (H : Heap) (locs : List Loc) (ls : Array Slot), WS G cI cJ cZ cD cR cT A kp L f0 s H locs → FM kp L ms_X1_isHeldBy f0 f0 → lv_has ls 3 [(2, .int y487581), (0, .ref h0), (1, .int u1)] → W p l e ({ frames := 1, cells := 0, slots := 0, locals := 40 }) s m ([.ref h0, .int u1] : List Value).toArray below meth c H locs 0 0 (MQ below (QT (po_X1_isHeldBy kp L f0 h0 u1) G cI cJ cZ cD cR cT A kp L) ([.ref h0, .int u1] : List Value).toArray s 0 0 A) (F0 m 2 ls []) := by
    intro n
    induction n with
    | zero =>
      intro y487581 b487582 hm H locs ls hW hF hl
      have hz := i32_b y487581
      exfalso; omega
    | succ n ih =>
      intro y487581 b487582 hm H locs ls hW hF hl
      have ih2 := ih
      refine lv_iload_n hx hb dX1_isHeldBy_2 rfl (lv_at hl 0 rfl) ?_
      refine lv_aload_n hx hb dX1_isHeldBy_3 rfl (lv_at hl 1 rfl) ?_
      refine fg_RX1_46 E hW rh0 dX1_isHeldBy_4 (fun y487584 m487585 b487586 => ?_)
      refine q_icmp_ge (tgt := 28) hx hb dX1_isHeldBy_7 (by decide) rfl rfl (fun c487587 => ?_) (fun c487587 => ?_)
      · refine lv_iconst (v := 0) hx hb dX1_isHeldBy_28 (by decide) ?_
        exact e_Z E hW rfl (by decide) ⟨⟨_, rfl, (by have hk : (0 : Int32).toInt = 0 := rfl; first | decide | omega)⟩, hF⟩ dX1_isHeldBy_29
      · refine lv_aload_n hx hb dX1_isHeldBy_10 rfl (lv_at hl 1 rfl) ?_
        refine fg_RX1_21 E hW rh0 dX1_isHeldBy_11 (fun a487588 m487589 r487590 => ?_)
        refine lv_iload_n hx hb dX1_isHeldBy_14 rfl (lv_at hl 0 rfl) ?_
        refine gl_164 E hW r487590 ⟨by omega, by omega⟩ dX1_isHeldBy_15 (fun y487591 m487592 b487593 => ?_)
        refine lv_iload_n hx hb dX1_isHeldBy_16 rfl (lv_at hl 2 rfl) ?_
        refine q_icmp_ne (tgt := 22) hx hb dX1_isHeldBy_17 (by decide) rfl rfl (fun c487594 => ?_) (fun c487594 => ?_)
        · refine q_iinc hx hb dX1_isHeldBy_22 hl (k := 0) rfl rfl rfl (by omega) (by decide) (fun i487595 ls h487596 hl => ?_)
          have hl : lv_has ls 3 [(2, .int i487595), (0, .ref h0), (1, .int u1)] := hl
          refine lv_goto (tgt := 2) hx hb dX1_isHeldBy_25 (by decide) ?_
          exact ih2 i487595 (by omega) (by omega) _ _ _ hW hF (lv_sub hl [0, 1, 2] rfl)
        · refine lv_iconst (v := 1) hx hb dX1_isHeldBy_20 (by decide) ?_
          exact e_Z E hW rfl (by decide) ⟨⟨_, rfl, (by have hk : (1 : Int32).toInt = 1 := rfl; first | decide | omega)⟩, hF⟩ dX1_isHeldBy_21
  have hk487597 : (0 : Int32).toInt = 0 := rfl
  exact L487583 41 0 (by decide) (by omega) _ _ _ hW hF (lv_sub hl [0, 1, 2] rfl)
def ms_X1_sumOfRents : List (Nat × Nat) := []
def po_X1_sumOfRents (kp : Nat → Nat) (L : List Nat) (f0 : Nat → va_E) (h0 : Nat) : Option Value → (Nat → va_E) → Prop := fun v f => (∃ r : Int64, v = some (.long r) ∧ (True)) ∧ FM kp L ms_X1_sumOfRents f0 f
set_option maxHeartbeats 4000000 in
set_option maxRecDepth 100000 in
theorem c_X1_sumOfRents (l : Launch) (G : va_G) (cI cJ cZ cD cR cT : ClassId) (kp : Nat → Nat) (L : List Nat) (f0 : Nat → va_E) (hTH : TH cI cJ cZ cD cR cT kp L f0) (sz : Nat) (h0 : Nat) (rh0 : RK kp L h0 1) : Met l yX1_sumOfRents (Cond.code yX1_sumOfRents cX1_sumOfRents 4 (some .long) :: wTab) ({ frames := 1, cells := 0, slots := 0, locals := 40 }) (va_Pc [.ref h0] (PreW G (tys6 cI cJ cZ cD cR cT) (va_pl L f0) sz)) (QT (po_X1_sumOfRents kp L f0 h0) G cI cJ cZ cD cR cT (va_A (va_pl L f0) sz) kp L) 0 0 (va_A (va_pl L f0) sz) := by
  refine metT (by decide) (Nat.le_of_ble_eq_true rfl) hTH ?_
  intro p e s m below meth c A ls E hW hl
  obtain ⟨hx, hb, -, hml, hown, hts, -, -, -⟩ := id E
  have hF : FM kp L ms_X1_sumOfRents f0 f0 := FM.rf
  have hl : lv_has ls 4 [(0, .ref h0)] := hl
  refine lv_lconst (v := 0) hx hb dX1_sumOfRents_0 (by decide) ?_
  refine lv_lstore_n (lv' := [(1, .long 0), (0, .ref h0)]) hx hb dX1_sumOfRents_1 rfl hl (by decide) rfl (fun ls hl => ?_)
  refine lv_iconst (v := 0) hx hb dX1_sumOfRents_2 (by decide) ?_
  refine lv_istore_n (lv' := [(3, .int 0), (1, .long 0), (0, .ref h0)]) hx hb dX1_sumOfRents_3 rfl hl (by decide) rfl (fun ls hl => ?_)
  have L487949 : ∀ (n : Nat), ∀ (y487946 : Int32) (y487948 : Int64) (b487947 : (0 : Int) ≤ y487946.toInt ∧ y487946.toInt ≤ 40) (hm : (41 : Int) - y487946.toInt ≤ n) (H : Heap) (locs : List Loc) (ls : Array Slot), WS G cI cJ cZ cD cR cT A kp L f0 s H locs → FM kp L ms_X1_sumOfRents f0 f0 → lv_has ls 4 [(3, .int y487946), (1, .long y487948), (0, .ref h0)] → W p l e ({ frames := 1, cells := 0, slots := 0, locals := 40 }) s m ([.ref h0] : List Value).toArray below meth c H locs 0 0 (MQ below (QT (po_X1_sumOfRents kp L f0 h0) G cI cJ cZ cD cR cT A kp L) ([.ref h0] : List Value).toArray s 0 0 A) (F0 m 4 ls []) := by
    intro n
    induction n with
    | zero =>
      intro y487946 y487948 b487947 hm H locs ls hW hF hl
      have hz := i32_b y487946
      exfalso; omega
    | succ n ih =>
      intro y487946 y487948 b487947 hm H locs ls hW hF hl
      have ih4 := ih
      refine lv_iload_n hx hb dX1_sumOfRents_4 rfl (lv_at hl 0 rfl) ?_
      refine lv_aload_n hx hb dX1_sumOfRents_5 rfl (lv_at hl 2 rfl) ?_
      refine fg_RX1_46 E hW rh0 dX1_sumOfRents_6 (fun y487950 m487951 b487952 => ?_)
      refine q_icmp_ge (tgt := 28) hx hb dX1_sumOfRents_9 (by decide) rfl rfl (fun c487964 => ?_) (fun c487964 => ?_)
      · refine lv_lload_n hx hb dX1_sumOfRents_28 rfl (lv_at hl 1 rfl) ?_
        exact e_J E hW rfl ⟨⟨_, rfl, trivial⟩, hF⟩ dX1_sumOfRents_29
      · refine lv_lload_n hx hb dX1_sumOfRents_12 rfl (lv_at hl 1 rfl) ?_
        refine lv_aload_n hx hb dX1_sumOfRents_13 rfl (lv_at hl 2 rfl) ?_
        refine fg_RX1_18 E hW rh0 dX1_sumOfRents_14 (fun a487965 m487966 r487967 => ?_)
        refine lv_iload_n hx hb dX1_sumOfRents_17 rfl (lv_at hl 0 rfl) ?_
        refine gl_163 E hW r487967 ⟨by omega, by omega⟩ dX1_sumOfRents_18 (fun y487968 m487969 => ?_)
        refine q_i2l hx hb dX1_sumOfRents_19 rfl (fun x487971 h487972 => ?_)
        refine u_ladd hx hb dX1_sumOfRents_20 (fun x487973 => ?_)
        refine lv_lstore_n (lv' := [(1, .long x487973), (3, .int y487946), (0, .ref h0)]) hx hb dX1_sumOfRents_21 rfl hl (by decide) rfl (fun ls hl => ?_)
        refine q_iinc hx hb dX1_sumOfRents_22 hl (k := 1) rfl rfl rfl (by omega) (by decide) (fun i487974 ls h487975 hl => ?_)
        have hl : lv_has ls 4 [(3, .int i487974), (1, .long x487973), (0, .ref h0)] := hl
        refine lv_goto (tgt := 4) hx hb dX1_sumOfRents_25 (by decide) ?_
        exact ih4 i487974 x487973 (by omega) (by omega) _ _ _ hW hF (lv_sub hl [0, 1, 2] rfl)
  have hk487976 : (0 : Int32).toInt = 0 := rfl
  have hk487977 : (0 : Int64).toInt = 0 := rfl
  exact L487949 41 0 0 (by decide) (by omega) _ _ _ hW hF (lv_sub hl [0, 1, 2] rfl)
def ms_X1_sumByPlace : List (Nat × Nat) := []
def po_X1_sumByPlace (kp : Nat → Nat) (L : List Nat) (f0 : Nat → va_E) (h0 : Nat) : Option Value → (Nat → va_E) → Prop := fun v f => (∃ r : Int64, v = some (.long r) ∧ (True)) ∧ FM kp L ms_X1_sumByPlace f0 f
set_option maxHeartbeats 4000000 in
set_option maxRecDepth 100000 in
theorem c_X1_sumByPlace (l : Launch) (G : va_G) (cI cJ cZ cD cR cT : ClassId) (kp : Nat → Nat) (L : List Nat) (f0 : Nat → va_E) (hTH : TH cI cJ cZ cD cR cT kp L f0) (sz : Nat) (h0 : Nat) (rh0 : RK kp L h0 1) : Met l yX1_sumByPlace (Cond.code yX1_sumByPlace cX1_sumByPlace 4 (some .long) :: wTab) ({ frames := 1, cells := 0, slots := 0, locals := 40 }) (va_Pc [.ref h0] (PreW G (tys6 cI cJ cZ cD cR cT) (va_pl L f0) sz)) (QT (po_X1_sumByPlace kp L f0 h0) G cI cJ cZ cD cR cT (va_A (va_pl L f0) sz) kp L) 0 0 (va_A (va_pl L f0) sz) := by
  refine metT (by decide) (Nat.le_of_ble_eq_true rfl) hTH ?_
  intro p e s m below meth c A ls E hW hl
  obtain ⟨hx, hb, -, hml, hown, hts, -, -, -⟩ := id E
  have hF : FM kp L ms_X1_sumByPlace f0 f0 := FM.rf
  have hl : lv_has ls 4 [(0, .ref h0)] := hl
  refine lv_lconst (v := 0) hx hb dX1_sumByPlace_0 (by decide) ?_
  refine lv_lstore_n (lv' := [(1, .long 0), (0, .ref h0)]) hx hb dX1_sumByPlace_1 rfl hl (by decide) rfl (fun ls hl => ?_)
  refine lv_iconst (v := 0) hx hb dX1_sumByPlace_2 (by decide) ?_
  refine lv_istore_n (lv' := [(3, .int 0), (1, .long 0), (0, .ref h0)]) hx hb dX1_sumByPlace_3 rfl hl (by decide) rfl (fun ls hl => ?_)
  have L488420 : ∀ (n : Nat), ∀ (y488417 : Int32) (y488419 : Int64) (b488418 : (0 : Int) ≤ y488417.toInt ∧ y488417.toInt ≤ 40) (hm : (41 : Int) - y488417.toInt ≤ n) (H : Heap) (locs : List Loc) (ls : Array Slot), WS G cI cJ cZ cD cR cT A kp L f0 s H locs → FM kp L ms_X1_sumByPlace f0 f0 → lv_has ls 4 [(3, .int y488417), (1, .long y488419), (0, .ref h0)] → W p l e ({ frames := 1, cells := 0, slots := 0, locals := 40 }) s m ([.ref h0] : List Value).toArray below meth c H locs 0 0 (MQ below (QT (po_X1_sumByPlace kp L f0 h0) G cI cJ cZ cD cR cT A kp L) ([.ref h0] : List Value).toArray s 0 0 A) (F0 m 4 ls []) := by
    intro n
    induction n with
    | zero =>
      intro y488417 y488419 b488418 hm H locs ls hW hF hl
      have hz := i32_b y488417
      exfalso; omega
    | succ n ih =>
      intro y488417 y488419 b488418 hm H locs ls hW hF hl
      have ih4 := ih
      refine lv_iload_n hx hb dX1_sumByPlace_4 rfl (lv_at hl 0 rfl) ?_
      refine lv_aload_n hx hb dX1_sumByPlace_5 rfl (lv_at hl 2 rfl) ?_
      refine fg_RX1_46 E hW rh0 dX1_sumByPlace_6 (fun y488421 m488422 b488423 => ?_)
      refine q_icmp_ge (tgt := 33) hx hb dX1_sumByPlace_9 (by decide) rfl rfl (fun c488440 => ?_) (fun c488440 => ?_)
      · refine lv_lload_n hx hb dX1_sumByPlace_33 rfl (lv_at hl 1 rfl) ?_
        exact e_J E hW rfl ⟨⟨_, rfl, trivial⟩, hF⟩ dX1_sumByPlace_34
      · refine lv_lload_n hx hb dX1_sumByPlace_12 rfl (lv_at hl 1 rfl) ?_
        refine lv_aload_n hx hb dX1_sumByPlace_13 rfl (lv_at hl 2 rfl) ?_
        refine fg_RX1_18 E hW rh0 dX1_sumByPlace_14 (fun a488441 m488442 r488443 => ?_)
        refine lv_iload_n hx hb dX1_sumByPlace_17 rfl (lv_at hl 0 rfl) ?_
        refine gl_163 E hW r488443 ⟨by omega, by omega⟩ dX1_sumByPlace_18 (fun y488444 m488445 => ?_)
        refine q_i2l hx hb dX1_sumByPlace_19 rfl (fun x488447 h488448 => ?_)
        refine lv_iload_n hx hb dX1_sumByPlace_20 rfl (lv_at hl 0 rfl) ?_
        refine lv_iconst (v := 1) hx hb dX1_sumByPlace_21 (by decide) ?_
        refine q_iadd (Y := 1) hx hb dX1_sumByPlace_22 rfl rfl (by omega) (fun x488449 h488450 => ?_)
        refine q_i2l hx hb dX1_sumByPlace_23 rfl (fun x488451 h488452 => ?_)
        refine u_lmul hx hb dX1_sumByPlace_24 (fun x488453 => ?_)
        refine u_ladd hx hb dX1_sumByPlace_25 (fun x488454 => ?_)
        refine lv_lstore_n (lv' := [(1, .long x488454), (3, .int y488417), (0, .ref h0)]) hx hb dX1_sumByPlace_26 rfl hl (by decide) rfl (fun ls hl => ?_)
        refine q_iinc hx hb dX1_sumByPlace_27 hl (k := 1) rfl rfl rfl (by omega) (by decide) (fun i488455 ls h488456 hl => ?_)
        have hl : lv_has ls 4 [(3, .int i488455), (1, .long x488454), (0, .ref h0)] := hl
        refine lv_goto (tgt := 4) hx hb dX1_sumByPlace_30 (by decide) ?_
        exact ih4 i488455 x488454 (by omega) (by omega) _ _ _ hW hF (lv_sub hl [0, 1, 2] rfl)
  have hk488457 : (0 : Int32).toInt = 0 := rfl
  have hk488458 : (0 : Int64).toInt = 0 := rfl
  exact L488420 41 0 0 (by decide) (by omega) _ _ _ hW hF (lv_sub hl [0, 1, 2] rfl)
def ms_X1_keepSums : List (Nat × Nat) := [(1, 12), (1, 13), (1, 14)]
def po_X1_keepSums (kp : Nat → Nat) (L : List Nat) (f0 : Nat → va_E) (h0 : Nat) : Option Value → (Nat → va_E) → Prop := fun v f => v = none ∧ FM kp L ms_X1_keepSums f0 f
set_option maxHeartbeats 4000000 in
set_option maxRecDepth 100000 in
theorem c_X1_keepSums (l : Launch) (G : va_G) (cI cJ cZ cD cR cT : ClassId) (kp : Nat → Nat) (L : List Nat) (f0 : Nat → va_E) (hTH : TH cI cJ cZ cD cR cT kp L f0) (sz : Nat) (h0 : Nat) (rh0 : RK kp L h0 1) : Met l yX1_keepSums (Cond.code yX1_keepSums cX1_keepSums 1 none :: wTab) ({ frames := 2, cells := 0, slots := 0, locals := 63 }) (va_Pc [.ref h0] (PreW G (tys6 cI cJ cZ cD cR cT) (va_pl L f0) sz)) (QT (po_X1_keepSums kp L f0 h0) G cI cJ cZ cD cR cT (va_A (va_pl L f0) sz) kp L) 0 0 (va_A (va_pl L f0) sz) := by
  refine metT (by decide) (Nat.le_of_ble_eq_true rfl) hTH ?_
  intro p e s m below meth c A ls E hW hl
  obtain ⟨hx, hb, -, hml, hown, hts, -, -, -⟩ := id E
  have hF : FM kp L ms_X1_keepSums f0 f0 := FM.rf
  have hl : lv_has ls 1 [(0, .ref h0)] := hl
  refine lv_aload_n hx hb dX1_keepSums_0 rfl (lv_at hl 0 rfl) ?_
  refine lv_aload_n hx hb dX1_keepSums_1 rfl (lv_at hl 0 rfl) ?_
  refine fg_RX1_46 E hW rh0 dX1_keepSums_2 (fun y488459 m488460 b488461 => ?_)
  refine fp_RX1_42 E hW rh0 dX1_keepSums_5 (fun f488462 H locs e488463 n488464 g488465 hW => ?_)
  have hF := FM.tr hF g488465 rfl
  refine lv_aload_n hx hb dX1_keepSums_8 rfl (lv_at hl 0 rfl) ?_
  refine lv_aload_n hx hb dX1_keepSums_9 rfl (lv_at hl 0 rfl) ?_
  refine t_callV (As := []) (rest := [.ref h0]) E hW (c_X1_sumOfRents l G cI cJ cZ cD cR cT kp L f488462 hW.2.2.2 _ h0 rh0) rh0 (by decide) rfl wk_X1_sumOfRents tw_1348 ⟨by decide, by decide, by decide⟩ ⟨Nat.le_of_ble_eq_true rfl, Nat.le_of_ble_eq_true rfl⟩ ⟨rfl, rfl⟩ hl.1 rfl (by decide) dX1_keepSums_10 ⟨Nat.le_of_ble_eq_true rfl, Nat.le_of_ble_eq_true rfl⟩ (fun v488466 f488467 H locs q488468 hW => ?_)
  obtain ⟨⟨x488470, rfl, p488471⟩, g488469⟩ := q488468
  clear p488471
  have hF := FM.tr hF g488469 rfl
  refine fp_RX1_62 E hW rh0 dX1_keepSums_13 (fun f488472 H locs e488473 n488474 g488475 hW => ?_)
  have hF := FM.tr hF g488475 rfl
  refine lv_aload_n hx hb dX1_keepSums_16 rfl (lv_at hl 0 rfl) ?_
  refine lv_aload_n hx hb dX1_keepSums_17 rfl (lv_at hl 0 rfl) ?_
  refine t_callV (As := []) (rest := [.ref h0]) E hW (c_X1_sumByPlace l G cI cJ cZ cD cR cT kp L f488472 hW.2.2.2 _ h0 rh0) rh0 (by decide) rfl wk_X1_sumByPlace tw_1352 ⟨by decide, by decide, by decide⟩ ⟨Nat.le_of_ble_eq_true rfl, Nat.le_of_ble_eq_true rfl⟩ ⟨rfl, rfl⟩ hl.1 rfl (by decide) dX1_keepSums_18 ⟨Nat.le_of_ble_eq_true rfl, Nat.le_of_ble_eq_true rfl⟩ (fun v488476 f488477 H locs q488478 hW => ?_)
  obtain ⟨⟨x488480, rfl, p488481⟩, g488479⟩ := q488478
  clear p488481
  have hF := FM.tr hF g488479 rfl
  refine fp_RX1_69 E hW rh0 dX1_keepSums_21 (fun f488482 H locs e488483 n488484 g488485 hW => ?_)
  have hF := FM.tr hF g488485 rfl
  exact e_V E hW rfl ⟨rfl, hF⟩ dX1_keepSums_24
def ms_X1_findAltered : List (Nat × Nat) := []
def po_X1_findAltered (kp : Nat → Nat) (L : List Nat) (f0 : Nat → va_E) (h0 : Nat) : Option Value → (Nat → va_E) → Prop := fun v f => (∃ r : Int32, v = some (.int r) ∧ ((-3 : Int) ≤ r.toInt ∧ r.toInt ≤ 39)) ∧ FM kp L ms_X1_findAltered f0 f
set_option maxHeartbeats 4000000 in
set_option maxRecDepth 100000 in
theorem c_X1_findAltered (l : Launch) (G : va_G) (cI cJ cZ cD cR cT : ClassId) (kp : Nat → Nat) (L : List Nat) (f0 : Nat → va_E) (hTH : TH cI cJ cZ cD cR cT kp L f0) (sz : Nat) (h0 : Nat) (rh0 : RK kp L h0 1) : Met l yX1_findAltered (Cond.code yX1_findAltered cX1_findAltered 6 (some .int) :: wTab) ({ frames := 2, cells := 0, slots := 0, locals := 63 }) (va_Pc [.ref h0] (PreW G (tys6 cI cJ cZ cD cR cT) (va_pl L f0) sz)) (QT (po_X1_findAltered kp L f0 h0) G cI cJ cZ cD cR cT (va_A (va_pl L f0) sz) kp L) 0 0 (va_A (va_pl L f0) sz) := by
  refine metT (by decide) (Nat.le_of_ble_eq_true rfl) hTH ?_
  intro p e s m below meth c A ls E hW hl
  obtain ⟨hx, hb, -, hml, hown, hts, -, -, -⟩ := id E
  have hF : FM kp L ms_X1_findAltered f0 f0 := FM.rf
  have hl : lv_has ls 6 [(0, .ref h0)] := hl
  refine lv_aload_n hx hb dX1_findAltered_0 rfl (lv_at hl 0 rfl) ?_
  refine fg_RX1_42 E hW rh0 dX1_findAltered_1 (fun y488486 m488487 => ?_)
  refine lv_iconst (v := (-1)) hx hb dX1_findAltered_4 (by decide) ?_
  refine q_icmp_ne (Y := -1) (tgt := 11) hx hb dX1_findAltered_5 (by decide) rfl rfl (fun c488489 => ?_) (fun c488489 => ?_)
  · refine lv_aload_n hx hb dX1_findAltered_11 rfl (lv_at hl 0 rfl) ?_
    refine fg_RX1_46 E hW rh0 dX1_findAltered_12 (fun y488490 m488491 b488492 => ?_)
    refine lv_aload_n hx hb dX1_findAltered_15 rfl (lv_at hl 0 rfl) ?_
    refine fg_RX1_42 E hW rh0 dX1_findAltered_16 (fun y488493 m488494 => ?_)
    obtain rfl : y488486 = y488493 := (m488487).symm.trans m488494
    refine q_icmp_le (tgt := 25) hx hb dX1_findAltered_19 (by decide) rfl rfl (fun c488496 => ?_) (fun c488496 => ?_)
    · refine lv_aload_n hx hb dX1_findAltered_25 rfl (lv_at hl 0 rfl) ?_
      refine t_callV (As := []) (rest := []) E hW (c_X1_sumOfRents l G cI cJ cZ cD cR cT kp L f0 hW.2.2.2 _ h0 rh0) rh0 (by decide) rfl wk_X1_sumOfRents tw_1348 ⟨by decide, by decide, by decide⟩ ⟨Nat.le_of_ble_eq_true rfl, Nat.le_of_ble_eq_true rfl⟩ ⟨rfl, rfl⟩ hl.1 rfl (by decide) dX1_findAltered_26 ⟨Nat.le_of_ble_eq_true rfl, Nat.le_of_ble_eq_true rfl⟩ (fun v488497 f488498 H locs q488499 hW => ?_)
      obtain ⟨⟨x488501, rfl, p488502⟩, g488500⟩ := q488499
      clear p488502
      have hF := FM.tr hF g488500 rfl
      refine lv_aload_n hx hb dX1_findAltered_29 rfl (lv_at hl 0 rfl) ?_
      refine fg_RX1_62 E hW rh0 dX1_findAltered_30 (fun y488503 m488504 => ?_)
      refine u_lsub hx hb dX1_findAltered_33 (fun x488505 => ?_)
      refine lv_lstore_n (lv' := [(1, .long x488505), (0, .ref h0)]) hx hb dX1_findAltered_34 rfl hl (by decide) rfl (fun ls hl => ?_)
      refine lv_aload_n hx hb dX1_findAltered_35 rfl (lv_at hl 1 rfl) ?_
      refine t_callV (As := []) (rest := []) E hW (c_X1_sumByPlace l G cI cJ cZ cD cR cT kp L f488498 hW.2.2.2 _ h0 rh0) rh0 (by decide) rfl wk_X1_sumByPlace tw_1352 ⟨by decide, by decide, by decide⟩ ⟨Nat.le_of_ble_eq_true rfl, Nat.le_of_ble_eq_true rfl⟩ ⟨rfl, rfl⟩ hl.1 rfl (by decide) dX1_findAltered_36 ⟨Nat.le_of_ble_eq_true rfl, Nat.le_of_ble_eq_true rfl⟩ (fun v488506 f488507 H locs q488508 hW => ?_)
      obtain ⟨⟨x488510, rfl, p488511⟩, g488509⟩ := q488508
      clear p488511
      have hF := FM.tr hF g488509 rfl
      refine lv_aload_n hx hb dX1_findAltered_39 rfl (lv_at hl 1 rfl) ?_
      refine fg_RX1_69 E hW rh0 dX1_findAltered_40 (fun y488512 m488513 => ?_)
      refine u_lsub hx hb dX1_findAltered_43 (fun x488514 => ?_)
      refine lv_lstore_n (lv' := [(3, .long x488514), (1, .long x488505), (0, .ref h0)]) hx hb dX1_findAltered_44 rfl hl (by decide) rfl (fun ls hl => ?_)
      refine lv_lload_n hx hb dX1_findAltered_45 rfl (lv_at hl 1 rfl) ?_
      refine lv_lconst (v := 0) hx hb dX1_findAltered_46 (by decide) ?_
      refine q_lcmp_ne (Y := 0) (tgt := 59) hx hb dX1_findAltered_47 dX1_findAltered_48 (by decide) rfl rfl (fun c488515 => ?_) (fun c488515 => ?_)
      · refine lv_iconst (v := 0) hx hb dX1_findAltered_59 (by decide) ?_
        refine lv_istore (lv' := [(5, .int 0), (3, .long x488514), (1, .long x488505), (0, .ref h0)]) hx hb dX1_findAltered_60 hl (by decide) rfl (fun ls hl => ?_)
        have L488784 : ∀ (n : Nat), ∀ (y488782 : Int32) (b488783 : (0 : Int) ≤ y488782.toInt ∧ y488782.toInt ≤ 40) (hm : (41 : Int) - y488782.toInt ≤ n) (H : Heap) (locs : List Loc) (ls : Array Slot), WS G cI cJ cZ cD cR cT A kp L f488507 s H locs → FM kp L ms_X1_findAltered f0 f488507 → lv_has ls 6 [(5, .int y488782), (3, .long x488514), (1, .long x488505), (0, .ref h0)] → W p l e ({ frames := 2, cells := 0, slots := 0, locals := 63 }) s m ([.ref h0] : List Value).toArray below meth c H locs 0 0 (MQ below (QT (po_X1_findAltered kp L f0 h0) G cI cJ cZ cD cR cT A kp L) ([.ref h0] : List Value).toArray s 0 0 A) (F0 m 62 ls []) := by
          intro n
          induction n with
          | zero =>
            intro y488782 b488783 hm H locs ls hW hF hl
            have hz := i32_b y488782
            exfalso; omega
          | succ n ih =>
            intro y488782 b488783 hm H locs ls hW hF hl
            have ih62 := ih
            refine lv_iload hx hb dX1_findAltered_62 (lv_at hl 0 rfl) ?_
            refine lv_aload_n hx hb dX1_findAltered_64 rfl (lv_at hl 3 rfl) ?_
            refine fg_RX1_46 E hW rh0 dX1_findAltered_65 (fun y488785 m488786 b488787 => ?_)
            obtain rfl : y488490 = y488785 := (((fm_I g488509 rh0 rfl).trans ((fm_I g488500 rh0 rfl).trans m488491))).symm.trans m488786
            refine q_icmp_ge (tgt := 92) hx hb dX1_findAltered_68 (by decide) rfl rfl (fun c488788 => ?_) (fun c488788 => ?_)
            · refine lv_bipush (v := (-2)) hx hb dX1_findAltered_92 (by decide) ?_
              exact e_I E hW rfl ⟨⟨_, rfl, (by have hk : ((-2) : Int32).toInt = -2 := rfl; first | decide | omega)⟩, hF⟩ dX1_findAltered_94
            · refine lv_lload_n hx hb dX1_findAltered_71 rfl (lv_at hl 2 rfl) ?_
              refine lv_iload hx hb dX1_findAltered_72 (lv_at hl 0 rfl) ?_
              refine lv_iconst (v := 1) hx hb dX1_findAltered_74 (by decide) ?_
              refine q_iadd (Y := 1) hx hb dX1_findAltered_75 rfl rfl (by omega) (fun x488789 h488790 => ?_)
              refine q_i2l hx hb dX1_findAltered_76 rfl (fun x488791 h488792 => ?_)
              refine u_lmul hx hb dX1_findAltered_77 (fun x488793 => ?_)
              refine lv_lload_n hx hb dX1_findAltered_78 rfl (lv_at hl 1 rfl) ?_
              refine q_lcmp_ne (tgt := 86) hx hb dX1_findAltered_79 dX1_findAltered_80 (by decide) rfl rfl (fun c488794 => ?_) (fun c488794 => ?_)
              · refine q_iinc hx hb dX1_findAltered_86 hl (k := 0) rfl rfl rfl (by omega) (by decide) (fun i488795 ls h488796 hl => ?_)
                have hl : lv_has ls 6 [(5, .int i488795), (3, .long x488514), (1, .long x488505), (0, .ref h0)] := hl
                refine lv_goto (tgt := 62) hx hb dX1_findAltered_89 (by decide) ?_
                exact ih62 i488795 (by omega) (by omega) _ _ _ hW hF (lv_sub hl [0, 1, 2, 3] rfl)
              · refine lv_iload hx hb dX1_findAltered_83 (lv_at hl 0 rfl) ?_
                exact e_I E hW rfl ⟨⟨_, rfl, (by first | omega | trivial)⟩, hF⟩ dX1_findAltered_85
        have hk488797 : (0 : Int32).toInt = 0 := rfl
        exact L488784 41 0 (by decide) (by omega) _ _ _ hW hF (lv_sub hl [0, 1, 2, 3] rfl)
      · refine lv_lload_n hx hb dX1_findAltered_51 rfl (lv_at hl 0 rfl) ?_
        refine lv_lconst (v := 0) hx hb dX1_findAltered_52 (by decide) ?_
        refine q_lcmp_ne (Y := 0) (tgt := 59) hx hb dX1_findAltered_53 dX1_findAltered_54 (by decide) rfl rfl (fun c488798 => ?_) (fun c488798 => ?_)
        · refine lv_iconst (v := 0) hx hb dX1_findAltered_59 (by decide) ?_
          refine lv_istore (lv' := [(5, .int 0), (3, .long x488514), (1, .long x488505), (0, .ref h0)]) hx hb dX1_findAltered_60 hl (by decide) rfl (fun ls hl => ?_)
          have L489067 : ∀ (n : Nat), ∀ (y489065 : Int32) (b489066 : (0 : Int) ≤ y489065.toInt ∧ y489065.toInt ≤ 40) (hm : (41 : Int) - y489065.toInt ≤ n) (H : Heap) (locs : List Loc) (ls : Array Slot), WS G cI cJ cZ cD cR cT A kp L f488507 s H locs → FM kp L ms_X1_findAltered f0 f488507 → lv_has ls 6 [(5, .int y489065), (3, .long x488514), (1, .long x488505), (0, .ref h0)] → W p l e ({ frames := 2, cells := 0, slots := 0, locals := 63 }) s m ([.ref h0] : List Value).toArray below meth c H locs 0 0 (MQ below (QT (po_X1_findAltered kp L f0 h0) G cI cJ cZ cD cR cT A kp L) ([.ref h0] : List Value).toArray s 0 0 A) (F0 m 62 ls []) := by
            intro n
            induction n with
            | zero =>
              intro y489065 b489066 hm H locs ls hW hF hl
              have hz := i32_b y489065
              exfalso; omega
            | succ n ih =>
              intro y489065 b489066 hm H locs ls hW hF hl
              have ih62 := ih
              refine lv_iload hx hb dX1_findAltered_62 (lv_at hl 0 rfl) ?_
              refine lv_aload_n hx hb dX1_findAltered_64 rfl (lv_at hl 3 rfl) ?_
              refine fg_RX1_46 E hW rh0 dX1_findAltered_65 (fun y489068 m489069 b489070 => ?_)
              obtain rfl : y488490 = y489068 := (((fm_I g488509 rh0 rfl).trans ((fm_I g488500 rh0 rfl).trans m488491))).symm.trans m489069
              refine q_icmp_ge (tgt := 92) hx hb dX1_findAltered_68 (by decide) rfl rfl (fun c489071 => ?_) (fun c489071 => ?_)
              · refine lv_bipush (v := (-2)) hx hb dX1_findAltered_92 (by decide) ?_
                exact e_I E hW rfl ⟨⟨_, rfl, (by have hk : ((-2) : Int32).toInt = -2 := rfl; first | decide | omega)⟩, hF⟩ dX1_findAltered_94
              · refine lv_lload_n hx hb dX1_findAltered_71 rfl (lv_at hl 2 rfl) ?_
                refine lv_iload hx hb dX1_findAltered_72 (lv_at hl 0 rfl) ?_
                refine lv_iconst (v := 1) hx hb dX1_findAltered_74 (by decide) ?_
                refine q_iadd (Y := 1) hx hb dX1_findAltered_75 rfl rfl (by omega) (fun x489072 h489073 => ?_)
                refine q_i2l hx hb dX1_findAltered_76 rfl (fun x489074 h489075 => ?_)
                refine u_lmul hx hb dX1_findAltered_77 (fun x489076 => ?_)
                refine lv_lload_n hx hb dX1_findAltered_78 rfl (lv_at hl 1 rfl) ?_
                refine q_lcmp_ne (tgt := 86) hx hb dX1_findAltered_79 dX1_findAltered_80 (by decide) rfl rfl (fun c489077 => ?_) (fun c489077 => ?_)
                · refine q_iinc hx hb dX1_findAltered_86 hl (k := 0) rfl rfl rfl (by omega) (by decide) (fun i489078 ls h489079 hl => ?_)
                  have hl : lv_has ls 6 [(5, .int i489078), (3, .long x488514), (1, .long x488505), (0, .ref h0)] := hl
                  refine lv_goto (tgt := 62) hx hb dX1_findAltered_89 (by decide) ?_
                  exact ih62 i489078 (by omega) (by omega) _ _ _ hW hF (lv_sub hl [0, 1, 2, 3] rfl)
                · refine lv_iload hx hb dX1_findAltered_83 (lv_at hl 0 rfl) ?_
                  exact e_I E hW rfl ⟨⟨_, rfl, (by first | omega | trivial)⟩, hF⟩ dX1_findAltered_85
          have hk489080 : (0 : Int32).toInt = 0 := rfl
          exact L489067 41 0 (by decide) (by omega) _ _ _ hW hF (lv_sub hl [0, 1, 2, 3] rfl)
        · refine lv_iconst (v := (-1)) hx hb dX1_findAltered_57 (by decide) ?_
          exact e_I E hW rfl ⟨⟨_, rfl, (by have hk : ((-1) : Int32).toInt = -1 := rfl; first | decide | omega)⟩, hF⟩ dX1_findAltered_58
    · refine lv_bipush (v := (-2)) hx hb dX1_findAltered_22 (by decide) ?_
      exact e_I E hW rfl ⟨⟨_, rfl, (by have hk : ((-2) : Int32).toInt = -2 := rfl; first | decide | omega)⟩, hF⟩ dX1_findAltered_24
  · refine lv_bipush (v := (-3)) hx hb dX1_findAltered_8 (by decide) ?_
    exact e_I E hW rfl ⟨⟨_, rfl, (by have hk : ((-3) : Int32).toInt = -3 := rfl; first | decide | omega)⟩, hF⟩ dX1_findAltered_10
def ms_X1_addField : List (Nat × Nat) := [(1, 0), (161, 0), (162, 0), (163, 0), (164, 0), (165, 0), (166, 0), (167, 0)]
def po_X1_addField (kp : Nat → Nat) (L : List Nat) (f0 : Nat → va_E) (h0 : Nat) (u1 : Int32) (u2 : Int32) (u3 : Int32) : Option Value → (Nat → va_E) → Prop := fun v f => (∃ r : Int32, v = some (.int r) ∧ ((-1 : Int) ≤ r.toInt ∧ r.toInt ≤ 39)) ∧ FM kp L ms_X1_addField f0 f
set_option maxHeartbeats 4000000 in
set_option maxRecDepth 100000 in
theorem c_X1_addField (l : Launch) (G : va_G) (cI cJ cZ cD cR cT : ClassId) (kp : Nat → Nat) (L : List Nat) (f0 : Nat → va_E) (hTH : TH cI cJ cZ cD cR cT kp L f0) (sz : Nat) (h0 : Nat) (u1 : Int32) (u2 : Int32) (u3 : Int32) (rh0 : RK kp L h0 1) : Met l yX1_addField (Cond.code yX1_addField cX1_addField 5 (some .int) :: wTab) ({ frames := 1, cells := 0, slots := 0, locals := 40 }) (va_Pc [.ref h0, .int u1, .int u2, .int u3] (PreW G (tys6 cI cJ cZ cD cR cT) (va_pl L f0) sz)) (QT (po_X1_addField kp L f0 h0 u1 u2 u3) G cI cJ cZ cD cR cT (va_A (va_pl L f0) sz) kp L) 0 0 (va_A (va_pl L f0) sz) := by
  refine metT (by decide) (Nat.le_of_ble_eq_true rfl) hTH ?_
  intro p e s m below meth c A ls E hW hl
  obtain ⟨hx, hb, -, hml, hown, hts, -, -, -⟩ := id E
  have hF : FM kp L ms_X1_addField f0 f0 := FM.rf
  have hl : lv_has ls 5 [(0, .ref h0), (1, .int u1), (2, .int u2), (3, .int u3)] := hl
  refine lv_aload_n hx hb dX1_addField_0 rfl (lv_at hl 0 rfl) ?_
  refine fg_RX1_46 E hW rh0 dX1_addField_1 (fun y489081 m489082 b489083 => ?_)
  refine lv_bipush (v := 40) hx hb dX1_addField_4 (by decide) ?_
  refine q_icmp_lt (Y := 40) (tgt := 11) hx hb dX1_addField_6 (by decide) rfl rfl (fun c489084 => ?_) (fun c489084 => ?_)
  · refine lv_aload_n hx hb dX1_addField_11 rfl (lv_at hl 0 rfl) ?_
    refine fg_RX1_46 E hW rh0 dX1_addField_12 (fun y489085 m489086 b489087 => ?_)
    obtain rfl : y489081 = y489085 := (m489082).symm.trans m489086
    refine lv_istore (lv' := [(4, .int y489081), (0, .ref h0), (1, .int u1), (2, .int u2), (3, .int u3)]) hx hb dX1_addField_15 hl (by decide) rfl (fun ls hl => ?_)
    refine lv_aload_n hx hb dX1_addField_17 rfl (lv_at hl 1 rfl) ?_
    refine fg_RX1_9 E hW rh0 dX1_addField_18 (fun a489088 m489089 r489090 => ?_)
    refine lv_iload hx hb dX1_addField_21 (lv_at hl 0 rfl) ?_
    refine lv_iload_n hx hb dX1_addField_23 rfl (lv_at hl 2 rfl) ?_
    refine gs_161 E hW r489090 ⟨by omega, by omega⟩ (by omega) dX1_addField_24 (fun f489091 H locs e489092 n489093 g489094 hW => ?_)
    have hF := FM.tr hF g489094 rfl
    refine lv_aload_n hx hb dX1_addField_25 rfl (lv_at hl 1 rfl) ?_
    refine fg_RX1_15 E hW rh0 dX1_addField_26 (fun a489095 m489096 r489097 => ?_)
    refine lv_iload hx hb dX1_addField_29 (lv_at hl 0 rfl) ?_
    refine lv_iload_n hx hb dX1_addField_31 rfl (lv_at hl 3 rfl) ?_
    refine gs_162 E hW r489097 ⟨by omega, by omega⟩ dX1_addField_32 (fun f489098 H locs e489099 n489100 g489101 hW => ?_)
    have hF := FM.tr hF g489101 rfl
    refine lv_aload_n hx hb dX1_addField_33 rfl (lv_at hl 1 rfl) ?_
    refine fg_RX1_18 E hW rh0 dX1_addField_34 (fun a489102 m489103 r489104 => ?_)
    refine lv_iload hx hb dX1_addField_37 (lv_at hl 0 rfl) ?_
    refine lv_iload_n hx hb dX1_addField_39 rfl (lv_at hl 4 rfl) ?_
    refine gs_163 E hW r489104 ⟨by omega, by omega⟩ dX1_addField_40 (fun f489105 H locs e489106 n489107 g489108 hW => ?_)
    have hF := FM.tr hF g489108 rfl
    refine lv_aload_n hx hb dX1_addField_41 rfl (lv_at hl 1 rfl) ?_
    refine fg_RX1_21 E hW rh0 dX1_addField_42 (fun a489109 m489110 r489111 => ?_)
    refine lv_iload hx hb dX1_addField_45 (lv_at hl 0 rfl) ?_
    refine lv_iconst (v := (-1)) hx hb dX1_addField_47 (by decide) ?_
    refine gs_164 E hW r489111 ⟨by omega, by omega⟩ (by decide) dX1_addField_48 (fun f489112 H locs e489113 n489114 g489115 hW => ?_)
    have hF := FM.tr hF g489115 rfl
    refine lv_aload_n hx hb dX1_addField_49 rfl (lv_at hl 1 rfl) ?_
    refine fg_RX1_24 E hW rh0 dX1_addField_50 (fun a489116 m489117 r489118 => ?_)
    refine lv_iload hx hb dX1_addField_53 (lv_at hl 0 rfl) ?_
    refine lv_iconst (v := 0) hx hb dX1_addField_55 (by decide) ?_
    refine gs_165 E hW r489118 ⟨by omega, by omega⟩ dX1_addField_56 (fun f489119 H locs e489120 n489121 g489122 hW => ?_)
    have hF := FM.tr hF g489122 rfl
    refine lv_aload_n hx hb dX1_addField_57 rfl (lv_at hl 1 rfl) ?_
    refine fg_RX1_27 E hW rh0 dX1_addField_58 (fun a489123 m489124 r489125 => ?_)
    refine lv_iload hx hb dX1_addField_61 (lv_at hl 0 rfl) ?_
    refine lv_iconst (v := 0) hx hb dX1_addField_63 (by decide) ?_
    refine gs_166 E hW r489125 ⟨by omega, by omega⟩ dX1_addField_64 (fun f489126 H locs e489127 n489128 g489129 hW => ?_)
    have hF := FM.tr hF g489129 rfl
    refine lv_aload_n hx hb dX1_addField_65 rfl (lv_at hl 1 rfl) ?_
    refine fg_RX1_30 E hW rh0 dX1_addField_66 (fun a489130 m489131 r489132 => ?_)
    refine lv_iload hx hb dX1_addField_69 (lv_at hl 0 rfl) ?_
    refine lv_iconst (v := 0) hx hb dX1_addField_71 (by decide) ?_
    refine gs_167 E hW r489132 ⟨by omega, by omega⟩ dX1_addField_72 (fun f489133 H locs e489134 n489135 g489136 hW => ?_)
    have hF := FM.tr hF g489136 rfl
    refine lv_aload_n hx hb dX1_addField_73 rfl (lv_at hl 1 rfl) ?_
    refine lv_dup hx hb dX1_addField_74 rfl ?_
    refine fg_RX1_46 E hW rh0 dX1_addField_75 (fun y489137 m489138 b489139 => ?_)
    obtain rfl : y489081 = y489137 := (((fm_I g489136 rh0 rfl).trans ((fm_I g489129 rh0 rfl).trans ((fm_I g489122 rh0 rfl).trans ((fm_I g489115 rh0 rfl).trans ((fm_I g489108 rh0 rfl).trans ((fm_I g489101 rh0 rfl).trans ((fm_I g489094 rh0 rfl).trans m489086)))))))).symm.trans m489138
    refine lv_iconst (v := 1) hx hb dX1_addField_78 (by decide) ?_
    refine q_iadd (Y := 1) hx hb dX1_addField_79 rfl rfl (by omega) (fun x489140 h489141 => ?_)
    refine fp_RX1_46 E hW rh0 (by omega) dX1_addField_80 (fun f489142 H locs e489143 n489144 g489145 hW => ?_)
    have hF := FM.tr hF g489145 rfl
    refine lv_iload hx hb dX1_addField_83 (lv_at hl 0 rfl) ?_
    exact e_I E hW rfl ⟨⟨_, rfl, (by first | omega | trivial)⟩, hF⟩ dX1_addField_85
  · refine lv_iconst (v := (-1)) hx hb dX1_addField_9 (by decide) ?_
    exact e_I E hW rfl ⟨⟨_, rfl, (by have hk : ((-1) : Int32).toInt = -1 := rfl; first | decide | omega)⟩, hF⟩ dX1_addField_10
def ms_X11_within : List (Nat × Nat) := []
def po_X11_within (kp : Nat → Nat) (L : List Nat) (f0 : Nat → va_E) (u1 : Int32) (u2 : Int32) (u3 : Int32) : Option Value → (Nat → va_E) → Prop := fun v f => (∃ r : Int32, v = some (.int r) ∧ ((r.toInt = 1 ∧ u2.toInt ≤ u1.toInt ∧ u1.toInt ≤ u3.toInt) ∨ (r.toInt = 0 ∧ (u1.toInt < u2.toInt ∨ u3.toInt < u1.toInt)))) ∧ FM kp L ms_X11_within f0 f
set_option maxHeartbeats 4000000 in
set_option maxRecDepth 100000 in
theorem c_X11_within (l : Launch) (G : va_G) (cI cJ cZ cD cR cT : ClassId) (kp : Nat → Nat) (L : List Nat) (f0 : Nat → va_E) (hTH : TH cI cJ cZ cD cR cT kp L f0) (sz : Nat) (u1 : Int32) (u2 : Int32) (u3 : Int32) : Met l yX11_within (Cond.code yX11_within cX11_within 3 (some .boolean) :: wTab) ({ frames := 1, cells := 0, slots := 0, locals := 40 }) (va_Pc [.int u1, .int u2, .int u3] (PreW G (tys6 cI cJ cZ cD cR cT) (va_pl L f0) sz)) (QT (po_X11_within kp L f0 u1 u2 u3) G cI cJ cZ cD cR cT (va_A (va_pl L f0) sz) kp L) 0 0 (va_A (va_pl L f0) sz) := by
  refine metT (by decide) (Nat.le_of_ble_eq_true rfl) hTH ?_
  intro p e s m below meth c A ls E hW hl
  obtain ⟨hx, hb, -, hml, hown, hts, -, -, -⟩ := id E
  have hF : FM kp L ms_X11_within f0 f0 := FM.rf
  have hl : lv_has ls 3 [(0, .int u1), (1, .int u2), (2, .int u3)] := hl
  refine lv_iload_n hx hb dX11_within_0 rfl (lv_at hl 0 rfl) ?_
  refine lv_iload_n hx hb dX11_within_1 rfl (lv_at hl 1 rfl) ?_
  refine q_icmp_lt (tgt := 14) hx hb dX11_within_2 (by decide) rfl rfl (fun c489148 => ?_) (fun c489148 => ?_)
  · refine lv_iconst (v := 0) hx hb dX11_within_14 (by decide) ?_
    exact e_Z E hW rfl (by decide) ⟨⟨_, rfl, (by have hk : (0 : Int32).toInt = 0 := rfl; first | decide | omega)⟩, hF⟩ dX11_within_15
  · refine lv_iload_n hx hb dX11_within_5 rfl (lv_at hl 0 rfl) ?_
    refine lv_iload_n hx hb dX11_within_6 rfl (lv_at hl 2 rfl) ?_
    refine q_icmp_gt (tgt := 14) hx hb dX11_within_7 (by decide) rfl rfl (fun c489149 => ?_) (fun c489149 => ?_)
    · refine lv_iconst (v := 0) hx hb dX11_within_14 (by decide) ?_
      exact e_Z E hW rfl (by decide) ⟨⟨_, rfl, (by have hk : (0 : Int32).toInt = 0 := rfl; first | decide | omega)⟩, hF⟩ dX11_within_15
    · refine lv_iconst (v := 1) hx hb dX11_within_10 (by decide) ?_
      refine lv_goto (tgt := 15) hx hb dX11_within_11 (by decide) ?_
      exact e_Z E hW rfl (by decide) ⟨⟨_, rfl, (by have hk : (1 : Int32).toInt = 1 := rfl; first | decide | omega)⟩, hF⟩ dX11_within_15
def ms_X11_isWeek : List (Nat × Nat) := []
def po_X11_isWeek (kp : Nat → Nat) (L : List Nat) (f0 : Nat → va_E) (u1 : Int32) : Option Value → (Nat → va_E) → Prop := fun v f => (∃ r : Int32, v = some (.int r) ∧ ((r.toInt = 1 ∧ 0 ≤ u1.toInt ∧ u1.toInt ≤ 399) ∨ (r.toInt = 0 ∧ (u1.toInt < 0 ∨ 399 < u1.toInt)))) ∧ FM kp L ms_X11_isWeek f0 f
set_option maxHeartbeats 4000000 in
set_option maxRecDepth 100000 in
theorem c_X11_isWeek (l : Launch) (G : va_G) (cI cJ cZ cD cR cT : ClassId) (kp : Nat → Nat) (L : List Nat) (f0 : Nat → va_E) (hTH : TH cI cJ cZ cD cR cT kp L f0) (sz : Nat) (u1 : Int32) : Met l yX11_isWeek (Cond.code yX11_isWeek cX11_isWeek 1 (some .boolean) :: wTab) ({ frames := 1, cells := 0, slots := 0, locals := 40 }) (va_Pc [.int u1] (PreW G (tys6 cI cJ cZ cD cR cT) (va_pl L f0) sz)) (QT (po_X11_isWeek kp L f0 u1) G cI cJ cZ cD cR cT (va_A (va_pl L f0) sz) kp L) 0 0 (va_A (va_pl L f0) sz) := by
  refine metT (by decide) (Nat.le_of_ble_eq_true rfl) hTH ?_
  intro p e s m below meth c A ls E hW hl
  obtain ⟨hx, hb, -, hml, hown, hts, -, -, -⟩ := id E
  have hF : FM kp L ms_X11_isWeek f0 f0 := FM.rf
  have hl : lv_has ls 1 [(0, .int u1)] := hl
  refine lv_iload_n hx hb dX11_isWeek_0 rfl (lv_at hl 0 rfl) ?_
  refine q_if_lt (tgt := 15) hx hb dX11_isWeek_1 (by decide) rfl (fun c489152 => ?_) (fun c489152 => ?_)
  · refine lv_iconst (v := 0) hx hb dX11_isWeek_15 (by decide) ?_
    exact e_Z E hW rfl (by decide) ⟨⟨_, rfl, (by have hk : (0 : Int32).toInt = 0 := rfl; first | decide | omega)⟩, hF⟩ dX11_isWeek_16
  · refine lv_iload_n hx hb dX11_isWeek_4 rfl (lv_at hl 0 rfl) ?_
    refine lv_sipush (v := 399) hx hb dX11_isWeek_5 (by decide) ?_
    refine q_icmp_gt (Y := 399) (tgt := 15) hx hb dX11_isWeek_8 (by decide) rfl rfl (fun c489153 => ?_) (fun c489153 => ?_)
    · refine lv_iconst (v := 0) hx hb dX11_isWeek_15 (by decide) ?_
      exact e_Z E hW rfl (by decide) ⟨⟨_, rfl, (by have hk : (0 : Int32).toInt = 0 := rfl; first | decide | omega)⟩, hF⟩ dX11_isWeek_16
    · refine lv_iconst (v := 1) hx hb dX11_isWeek_11 (by decide) ?_
      refine lv_goto (tgt := 16) hx hb dX11_isWeek_12 (by decide) ?_
      exact e_Z E hW rfl (by decide) ⟨⟨_, rfl, (by have hk : (1 : Int32).toInt = 1 := rfl; first | decide | omega)⟩, hF⟩ dX11_isWeek_16
def ms_X11_refuse : List (Nat × Nat) := [(11, 15)]
def po_X11_refuse (kp : Nat → Nat) (L : List Nat) (f0 : Nat → va_E) (h0 : Nat) (u1 : Int32) : Option Value → (Nat → va_E) → Prop := fun v f => (∃ r : Int32, v = some (.int r) ∧ (True)) ∧ FM kp L ms_X11_refuse f0 f
set_option maxHeartbeats 4000000 in
set_option maxRecDepth 100000 in
theorem c_X11_refuse (l : Launch) (G : va_G) (cI cJ cZ cD cR cT : ClassId) (kp : Nat → Nat) (L : List Nat) (f0 : Nat → va_E) (hTH : TH cI cJ cZ cD cR cT kp L f0) (sz : Nat) (h0 : Nat) (u1 : Int32) (rh0 : RK kp L h0 11) : Met l yX11_refuse (Cond.code yX11_refuse cX11_refuse 2 (some .int) :: wTab) ({ frames := 1, cells := 0, slots := 0, locals := 40 }) (va_Pc [.ref h0, .int u1] (PreW G (tys6 cI cJ cZ cD cR cT) (va_pl L f0) sz)) (QT (po_X11_refuse kp L f0 h0 u1) G cI cJ cZ cD cR cT (va_A (va_pl L f0) sz) kp L) 0 0 (va_A (va_pl L f0) sz) := by
  refine metT (by decide) (Nat.le_of_ble_eq_true rfl) hTH ?_
  intro p e s m below meth c A ls E hW hl
  obtain ⟨hx, hb, -, hml, hown, hts, -, -, -⟩ := id E
  have hF : FM kp L ms_X11_refuse f0 f0 := FM.rf
  have hl : lv_has ls 2 [(0, .ref h0), (1, .int u1)] := hl
  refine lv_aload_n hx hb dX11_refuse_0 rfl (lv_at hl 0 rfl) ?_
  refine lv_iload_n hx hb dX11_refuse_1 rfl (lv_at hl 1 rfl) ?_
  refine fp_RX11_356 E hW rh0 dX11_refuse_2 (fun f489158 H locs e489159 n489160 g489161 hW => ?_)
  have hF := FM.tr hF g489161 rfl
  refine lv_iload_n hx hb dX11_refuse_5 rfl (lv_at hl 1 rfl) ?_
  exact e_I E hW rfl ⟨⟨_, rfl, trivial⟩, hF⟩ dX11_refuse_6
def ms_X11_accept : List (Nat × Nat) := [(11, 15)]
def po_X11_accept (kp : Nat → Nat) (L : List Nat) (f0 : Nat → va_E) (h0 : Nat) (u1 : Int32) : Option Value → (Nat → va_E) → Prop := fun v f => (∃ r : Int32, v = some (.int r) ∧ (True)) ∧ FM kp L ms_X11_accept f0 f
set_option maxHeartbeats 4000000 in
set_option maxRecDepth 100000 in
theorem c_X11_accept (l : Launch) (G : va_G) (cI cJ cZ cD cR cT : ClassId) (kp : Nat → Nat) (L : List Nat) (f0 : Nat → va_E) (hTH : TH cI cJ cZ cD cR cT kp L f0) (sz : Nat) (h0 : Nat) (u1 : Int32) (rh0 : RK kp L h0 11) : Met l yX11_accept (Cond.code yX11_accept cX11_accept 2 (some .int) :: wTab) ({ frames := 1, cells := 0, slots := 0, locals := 40 }) (va_Pc [.ref h0, .int u1] (PreW G (tys6 cI cJ cZ cD cR cT) (va_pl L f0) sz)) (QT (po_X11_accept kp L f0 h0 u1) G cI cJ cZ cD cR cT (va_A (va_pl L f0) sz) kp L) 0 0 (va_A (va_pl L f0) sz) := by
  refine metT (by decide) (Nat.le_of_ble_eq_true rfl) hTH ?_
  intro p e s m below meth c A ls E hW hl
  obtain ⟨hx, hb, -, hml, hown, hts, -, -, -⟩ := id E
  have hF : FM kp L ms_X11_accept f0 f0 := FM.rf
  have hl : lv_has ls 2 [(0, .ref h0), (1, .int u1)] := hl
  refine lv_aload_n hx hb dX11_accept_0 rfl (lv_at hl 0 rfl) ?_
  refine lv_iconst (v := 0) hx hb dX11_accept_1 (by decide) ?_
  refine fp_RX11_356 E hW rh0 dX11_accept_2 (fun f489166 H locs e489167 n489168 g489169 hW => ?_)
  have hF := FM.tr hF g489169 rfl
  refine lv_iload_n hx hb dX11_accept_5 rfl (lv_at hl 1 rfl) ?_
  exact e_I E hW rfl ⟨⟨_, rfl, trivial⟩, hF⟩ dX11_accept_6
