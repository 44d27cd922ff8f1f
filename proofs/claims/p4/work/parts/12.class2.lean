theorem dX0_advanceWrit_0 : decode cX0_advanceWrit 0 = .ok (.aload_n 0, 1) := by decide +kernel
theorem dX0_advanceWrit_1 : decode cX0_advanceWrit 1 = .ok (.getfield 28, 3) := by decide +kernel
theorem dX0_advanceWrit_4 : decode cX0_advanceWrit 4 = .ok (.getfield 235, 3) := by decide +kernel
theorem dX0_advanceWrit_7 : decode cX0_advanceWrit 7 = .ok (.iload_n 1, 1) := by decide +kernel
theorem dX0_advanceWrit_8 : decode cX0_advanceWrit 8 = .ok (.iaload, 1) := by decide +kernel
theorem dX0_advanceWrit_9 : decode cX0_advanceWrit 9 = .ok (.istore_n 2, 1) := by decide +kernel
theorem dX0_advanceWrit_10 : decode cX0_advanceWrit 10 = .ok (.aload_n 0, 1) := by decide +kernel
theorem dX0_advanceWrit_11 : decode cX0_advanceWrit 11 = .ok (.getfield 21, 3) := by decide +kernel
theorem dX0_advanceWrit_14 : decode cX0_advanceWrit 14 = .ok (.getfield 188, 3) := by decide +kernel
theorem dX0_advanceWrit_17 : decode cX0_advanceWrit 17 = .ok (.iload_n 2, 1) := by decide +kernel
theorem dX0_advanceWrit_18 : decode cX0_advanceWrit 18 = .ok (.iaload, 1) := by decide +kernel
theorem dX0_advanceWrit_19 : decode cX0_advanceWrit 19 = .ok (.ifCond .eq 24, 3) := by decide +kernel
theorem dX0_advanceWrit_43 : decode cX0_advanceWrit 43 = .ok (.aload_n 0, 1) := by decide +kernel
theorem dX0_advanceWrit_44 : decode cX0_advanceWrit 44 = .ok (.getfield 28, 3) := by decide +kernel
theorem dX0_advanceWrit_47 : decode cX0_advanceWrit 47 = .ok (.getfield 151, 3) := by decide +kernel
theorem dX0_advanceWrit_50 : decode cX0_advanceWrit 50 = .ok (.iload_n 1, 1) := by decide +kernel
theorem dX0_advanceWrit_51 : decode cX0_advanceWrit 51 = .ok (.iconst 0, 1) := by decide +kernel
theorem dX0_advanceWrit_52 : decode cX0_advanceWrit 52 = .ok (.iastore, 1) := by decide +kernel
theorem dX0_advanceWrit_53 : decode cX0_advanceWrit 53 = .ok (.return_, 1) := by decide +kernel
theorem dX0_advanceWrit_22 : decode cX0_advanceWrit 22 = .ok (.aload_n 0, 1) := by decide +kernel
theorem dX0_advanceWrit_23 : decode cX0_advanceWrit 23 = .ok (.getfield 21, 3) := by decide +kernel
theorem dX0_advanceWrit_26 : decode cX0_advanceWrit 26 = .ok (.getfield 124, 3) := by decide +kernel
theorem dX0_advanceWrit_29 : decode cX0_advanceWrit 29 = .ok (.iload_n 2, 1) := by decide +kernel
theorem dX0_advanceWrit_30 : decode cX0_advanceWrit 30 = .ok (.iaload, 1) := by decide +kernel
theorem dX0_advanceWrit_31 : decode cX0_advanceWrit 31 = .ok (.aload_n 0, 1) := by decide +kernel
theorem dX0_advanceWrit_32 : decode cX0_advanceWrit 32 = .ok (.getfield 28, 3) := by decide +kernel
theorem dX0_advanceWrit_35 : decode cX0_advanceWrit 35 = .ok (.getfield 238, 3) := by decide +kernel
theorem dX0_advanceWrit_38 : decode cX0_advanceWrit 38 = .ok (.iload_n 1, 1) := by decide +kernel
theorem dX0_advanceWrit_39 : decode cX0_advanceWrit 39 = .ok (.iaload, 1) := by decide +kernel
theorem dX0_advanceWrit_40 : decode cX0_advanceWrit 40 = .ok (.if_icmp .eq 14, 3) := by decide +kernel
theorem dX0_advanceWrit_54 : decode cX0_advanceWrit 54 = .ok (.aload_n 0, 1) := by decide +kernel
theorem dX0_advanceWrit_55 : decode cX0_advanceWrit 55 = .ok (.getfield 28, 3) := by decide +kernel
theorem dX0_advanceWrit_58 : decode cX0_advanceWrit 58 = .ok (.getfield 239, 3) := by decide +kernel
theorem dX0_advanceWrit_61 : decode cX0_advanceWrit 61 = .ok (.iload_n 1, 1) := by decide +kernel
theorem dX0_advanceWrit_62 : decode cX0_advanceWrit 62 = .ok (.iaload, 1) := by decide +kernel
theorem dX0_advanceWrit_63 : decode cX0_advanceWrit 63 = .ok (.aload_n 0, 1) := by decide +kernel
theorem dX0_advanceWrit_64 : decode cX0_advanceWrit 64 = .ok (.getfield 93, 3) := by decide +kernel
theorem dX0_advanceWrit_67 : decode cX0_advanceWrit 67 = .ok (.if_icmp .eq 18, 3) := by decide +kernel
theorem dX0_advanceWrit_85 : decode cX0_advanceWrit 85 = .ok (.return_, 1) := by decide +kernel
theorem dX0_advanceWrit_70 : decode cX0_advanceWrit 70 = .ok (.aload_n 0, 1) := by decide +kernel
theorem dX0_advanceWrit_71 : decode cX0_advanceWrit 71 = .ok (.getfield 28, 3) := by decide +kernel
theorem dX0_advanceWrit_74 : decode cX0_advanceWrit 74 = .ok (.iload_n 2, 1) := by decide +kernel
theorem dX0_advanceWrit_75 : decode cX0_advanceWrit 75 = .ok (.aload_n 0, 1) := by decide +kernel
theorem dX0_advanceWrit_76 : decode cX0_advanceWrit 76 = .ok (.getfield 93, 3) := by decide +kernel
theorem dX0_advanceWrit_79 : decode cX0_advanceWrit 79 = .ok (.invokevirtual 242, 3) := by decide +kernel
theorem dX0_advanceWrit_82 : decode cX0_advanceWrit 82 = .ok (.ifCond .eq 4, 3) := by decide +kernel
theorem dX0_advanceWrit_86 : decode cX0_advanceWrit 86 = .ok (.aload_n 0, 1) := by decide +kernel
theorem dX0_advanceWrit_87 : decode cX0_advanceWrit 87 = .ok (.getfield 28, 3) := by decide +kernel
theorem dX0_advanceWrit_90 : decode cX0_advanceWrit 90 = .ok (.getfield 246, 3) := by decide +kernel
theorem dX0_advanceWrit_93 : decode cX0_advanceWrit 93 = .ok (.iload_n 1, 1) := by decide +kernel
theorem dX0_advanceWrit_94 : decode cX0_advanceWrit 94 = .ok (.dup2, 1) := by decide +kernel
theorem dX0_advanceWrit_95 : decode cX0_advanceWrit 95 = .ok (.iaload, 1) := by decide +kernel
theorem dX0_advanceWrit_96 : decode cX0_advanceWrit 96 = .ok (.iconst 1, 1) := by decide +kernel
theorem dX0_advanceWrit_97 : decode cX0_advanceWrit 97 = .ok (.isub, 1) := by decide +kernel
theorem dX0_advanceWrit_98 : decode cX0_advanceWrit 98 = .ok (.iastore, 1) := by decide +kernel
theorem dX0_advanceWrit_99 : decode cX0_advanceWrit 99 = .ok (.aload_n 0, 1) := by decide +kernel
theorem dX0_advanceWrit_100 : decode cX0_advanceWrit 100 = .ok (.getfield 28, 3) := by decide +kernel
theorem dX0_advanceWrit_103 : decode cX0_advanceWrit 103 = .ok (.getfield 246, 3) := by decide +kernel
theorem dX0_advanceWrit_106 : decode cX0_advanceWrit 106 = .ok (.iload_n 1, 1) := by decide +kernel
theorem dX0_advanceWrit_107 : decode cX0_advanceWrit 107 = .ok (.iaload, 1) := by decide +kernel
theorem dX0_advanceWrit_108 : decode cX0_advanceWrit 108 = .ok (.ifCond .le 4, 3) := by decide +kernel
theorem dX0_advanceWrit_112 : decode cX0_advanceWrit 112 = .ok (.aload_n 0, 1) := by decide +kernel
theorem dX0_advanceWrit_113 : decode cX0_advanceWrit 113 = .ok (.getfield 28, 3) := by decide +kernel
theorem dX0_advanceWrit_116 : decode cX0_advanceWrit 116 = .ok (.getfield 249, 3) := by decide +kernel
theorem dX0_advanceWrit_119 : decode cX0_advanceWrit 119 = .ok (.iload_n 1, 1) := by decide +kernel
theorem dX0_advanceWrit_120 : decode cX0_advanceWrit 120 = .ok (.dup2, 1) := by decide +kernel
theorem dX0_advanceWrit_121 : decode cX0_advanceWrit 121 = .ok (.iaload, 1) := by decide +kernel
theorem dX0_advanceWrit_122 : decode cX0_advanceWrit 122 = .ok (.iconst 1, 1) := by decide +kernel
theorem dX0_advanceWrit_123 : decode cX0_advanceWrit 123 = .ok (.iadd, 1) := by decide +kernel
theorem dX0_advanceWrit_124 : decode cX0_advanceWrit 124 = .ok (.iastore, 1) := by decide +kernel
theorem dX0_advanceWrit_125 : decode cX0_advanceWrit 125 = .ok (.aload_n 0, 1) := by decide +kernel
theorem dX0_advanceWrit_126 : decode cX0_advanceWrit 126 = .ok (.getfield 28, 3) := by decide +kernel
theorem dX0_advanceWrit_129 : decode cX0_advanceWrit 129 = .ok (.getfield 249, 3) := by decide +kernel
theorem dX0_advanceWrit_132 : decode cX0_advanceWrit 132 = .ok (.iload_n 1, 1) := by decide +kernel
theorem dX0_advanceWrit_133 : decode cX0_advanceWrit 133 = .ok (.iaload, 1) := by decide +kernel
theorem dX0_advanceWrit_134 : decode cX0_advanceWrit 134 = .ok (.iconst 3, 1) := by decide +kernel
theorem dX0_advanceWrit_135 : decode cX0_advanceWrit 135 = .ok (.if_icmp .le 30, 3) := by decide +kernel
theorem dX0_advanceWrit_190 : decode cX0_advanceWrit 190 = .ok (.return_, 1) := by decide +kernel
theorem dX0_advanceWrit_165 : decode cX0_advanceWrit 165 = .ok (.aload_n 0, 1) := by decide +kernel
theorem dX0_advanceWrit_166 : decode cX0_advanceWrit 166 = .ok (.getfield 28, 3) := by decide +kernel
theorem dX0_advanceWrit_169 : decode cX0_advanceWrit 169 = .ok (.getfield 246, 3) := by decide +kernel
theorem dX0_advanceWrit_172 : decode cX0_advanceWrit 172 = .ok (.iload_n 1, 1) := by decide +kernel
theorem dX0_advanceWrit_173 : decode cX0_advanceWrit 173 = .ok (.aload_n 0, 1) := by decide +kernel
theorem dX0_advanceWrit_174 : decode cX0_advanceWrit 174 = .ok (.getfield 42, 3) := by decide +kernel
theorem dX0_advanceWrit_177 : decode cX0_advanceWrit 177 = .ok (.aload_n 0, 1) := by decide +kernel
theorem dX0_advanceWrit_178 : decode cX0_advanceWrit 178 = .ok (.getfield 28, 3) := by decide +kernel
theorem dX0_advanceWrit_181 : decode cX0_advanceWrit 181 = .ok (.getfield 249, 3) := by decide +kernel
theorem dX0_advanceWrit_184 : decode cX0_advanceWrit 184 = .ok (.iload_n 1, 1) := by decide +kernel
theorem dX0_advanceWrit_185 : decode cX0_advanceWrit 185 = .ok (.iaload, 1) := by decide +kernel
theorem dX0_advanceWrit_186 : decode cX0_advanceWrit 186 = .ok (.invokevirtual 228, 3) := by decide +kernel
theorem dX0_advanceWrit_189 : decode cX0_advanceWrit 189 = .ok (.iastore, 1) := by decide +kernel
theorem dX0_advanceWrit_138 : decode cX0_advanceWrit 138 = .ok (.aload_n 0, 1) := by decide +kernel
theorem dX0_advanceWrit_139 : decode cX0_advanceWrit 139 = .ok (.getfield 28, 3) := by decide +kernel
theorem dX0_advanceWrit_142 : decode cX0_advanceWrit 142 = .ok (.getfield 151, 3) := by decide +kernel
theorem dX0_advanceWrit_145 : decode cX0_advanceWrit 145 = .ok (.iload_n 1, 1) := by decide +kernel
theorem dX0_advanceWrit_146 : decode cX0_advanceWrit 146 = .ok (.iconst 0, 1) := by decide +kernel
theorem dX0_advanceWrit_147 : decode cX0_advanceWrit 147 = .ok (.iastore, 1) := by decide +kernel
theorem dX0_advanceWrit_148 : decode cX0_advanceWrit 148 = .ok (.aload_n 0, 1) := by decide +kernel
theorem dX0_advanceWrit_149 : decode cX0_advanceWrit 149 = .ok (.iload_n 2, 1) := by decide +kernel
theorem dX0_advanceWrit_150 : decode cX0_advanceWrit 150 = .ok (.aload_n 0, 1) := by decide +kernel
theorem dX0_advanceWrit_151 : decode cX0_advanceWrit 151 = .ok (.getfield 28, 3) := by decide +kernel
theorem dX0_advanceWrit_154 : decode cX0_advanceWrit 154 = .ok (.getfield 238, 3) := by decide +kernel
theorem dX0_advanceWrit_157 : decode cX0_advanceWrit 157 = .ok (.iload_n 1, 1) := by decide +kernel
theorem dX0_advanceWrit_158 : decode cX0_advanceWrit 158 = .ok (.iaload, 1) := by decide +kernel
theorem dX0_advanceWrit_159 : decode cX0_advanceWrit 159 = .ok (.invokevirtual 252, 3) := by decide +kernel
theorem dX0_putOut_0 : decode cX0_putOut 0 = .ok (.aload_n 0, 1) := by decide +kernel
theorem dX0_putOut_1 : decode cX0_putOut 1 = .ok (.dup, 1) := by decide +kernel
theorem dX0_putOut_2 : decode cX0_putOut 2 = .ok (.getfield 100, 3) := by decide +kernel
theorem dX0_putOut_5 : decode cX0_putOut 5 = .ok (.iconst 1, 1) := by decide +kernel
theorem dX0_putOut_6 : decode cX0_putOut 6 = .ok (.iadd, 1) := by decide +kernel
theorem dX0_putOut_7 : decode cX0_putOut 7 = .ok (.putfield 100, 3) := by decide +kernel
theorem dX0_putOut_10 : decode cX0_putOut 10 = .ok (.aload_n 0, 1) := by decide +kernel
theorem dX0_putOut_11 : decode cX0_putOut 11 = .ok (.getfield 21, 3) := by decide +kernel
theorem dX0_putOut_14 : decode cX0_putOut 14 = .ok (.getfield 124, 3) := by decide +kernel
theorem dX0_putOut_17 : decode cX0_putOut 17 = .ok (.iload_n 1, 1) := by decide +kernel
theorem dX0_putOut_18 : decode cX0_putOut 18 = .ok (.iconst (-1), 1) := by decide +kernel
theorem dX0_putOut_19 : decode cX0_putOut 19 = .ok (.iastore, 1) := by decide +kernel
theorem dX0_putOut_20 : decode cX0_putOut 20 = .ok (.aload_n 0, 1) := by decide +kernel
theorem dX0_putOut_21 : decode cX0_putOut 21 = .ok (.getfield 21, 3) := by decide +kernel
theorem dX0_putOut_24 : decode cX0_putOut 24 = .ok (.getfield 127, 3) := by decide +kernel
theorem dX0_putOut_27 : decode cX0_putOut 27 = .ok (.iload_n 1, 1) := by decide +kernel
theorem dX0_putOut_28 : decode cX0_putOut 28 = .ok (.iconst 0, 1) := by decide +kernel
theorem dX0_putOut_29 : decode cX0_putOut 29 = .ok (.iastore, 1) := by decide +kernel
theorem dX0_putOut_30 : decode cX0_putOut 30 = .ok (.aload_n 0, 1) := by decide +kernel
theorem dX0_putOut_31 : decode cX0_putOut 31 = .ok (.getfield 21, 3) := by decide +kernel
theorem dX0_putOut_34 : decode cX0_putOut 34 = .ok (.getfield 256, 3) := by decide +kernel
theorem dX0_putOut_37 : decode cX0_putOut 37 = .ok (.iload_n 1, 1) := by decide +kernel
theorem dX0_putOut_38 : decode cX0_putOut 38 = .ok (.iconst 1, 1) := by decide +kernel
theorem dX0_putOut_39 : decode cX0_putOut 39 = .ok (.iastore, 1) := by decide +kernel
theorem dX0_putOut_40 : decode cX0_putOut 40 = .ok (.aload_n 0, 1) := by decide +kernel
theorem dX0_putOut_41 : decode cX0_putOut 41 = .ok (.getfield 12, 3) := by decide +kernel
theorem dX0_putOut_44 : decode cX0_putOut 44 = .ok (.getfield 182, 3) := by decide +kernel
theorem dX0_putOut_47 : decode cX0_putOut 47 = .ok (.iload_n 2, 1) := by decide +kernel
theorem dX0_putOut_48 : decode cX0_putOut 48 = .ok (.iaload, 1) := by decide +kernel
theorem dX0_putOut_49 : decode cX0_putOut 49 = .ok (.ifCond .ne 37, 3) := by decide +kernel
theorem dX0_putOut_86 : decode cX0_putOut 86 = .ok (.return_, 1) := by decide +kernel
theorem dX0_putOut_52 : decode cX0_putOut 52 = .ok (.aload_n 0, 1) := by decide +kernel
theorem dX0_putOut_53 : decode cX0_putOut 53 = .ok (.getfield 21, 3) := by decide +kernel
theorem dX0_putOut_56 : decode cX0_putOut 56 = .ok (.iload_n 2, 1) := by decide +kernel
theorem dX0_putOut_57 : decode cX0_putOut 57 = .ok (.invokevirtual 259, 3) := by decide +kernel
theorem dX0_putOut_60 : decode cX0_putOut 60 = .ok (.ifCond .ne 26, 3) := by decide +kernel
theorem dX0_putOut_63 : decode cX0_putOut 63 = .ok (.aload_n 0, 1) := by decide +kernel
theorem dX0_putOut_64 : decode cX0_putOut 64 = .ok (.getfield 12, 3) := by decide +kernel
theorem dX0_putOut_67 : decode cX0_putOut 67 = .ok (.getfield 182, 3) := by decide +kernel
theorem dX0_putOut_70 : decode cX0_putOut 70 = .ok (.iload_n 2, 1) := by decide +kernel
theorem dX0_putOut_71 : decode cX0_putOut 71 = .ok (.iconst 1, 1) := by decide +kernel
theorem dX0_putOut_72 : decode cX0_putOut 72 = .ok (.iastore, 1) := by decide +kernel
theorem dX0_putOut_73 : decode cX0_putOut 73 = .ok (.aload_n 0, 1) := by decide +kernel
theorem dX0_putOut_74 : decode cX0_putOut 74 = .ok (.getfield 12, 3) := by decide +kernel
theorem dX0_putOut_77 : decode cX0_putOut 77 = .ok (.getfield 130, 3) := by decide +kernel
theorem dX0_putOut_80 : decode cX0_putOut 80 = .ok (.iload_n 2, 1) := by decide +kernel
theorem dX0_putOut_81 : decode cX0_putOut 81 = .ok (.aload_n 0, 1) := by decide +kernel
theorem dX0_putOut_82 : decode cX0_putOut 82 = .ok (.getfield 93, 3) := by decide +kernel
theorem dX0_putOut_85 : decode cX0_putOut 85 = .ok (.iastore, 1) := by decide +kernel
theorem dX0_advanceWrit_162 : decode cX0_advanceWrit 162 = .ok (.goto 28, 3) := by decide +kernel
theorem dX0_advanceWrit_111 : decode cX0_advanceWrit 111 = .ok (.return_, 1) := by decide +kernel
theorem dX0_anyHolds_0 : decode cX0_anyHolds 0 = .ok (.iconst 0, 1) := by decide +kernel
theorem dX0_anyHolds_1 : decode cX0_anyHolds 1 = .ok (.istore 4, 2) := by decide +kernel
theorem dX0_anyHolds_3 : decode cX0_anyHolds 3 = .ok (.iload 4, 2) := by decide +kernel
theorem dX0_anyHolds_5 : decode cX0_anyHolds 5 = .ok (.aload_n 0, 1) := by decide +kernel
theorem dX0_anyHolds_6 : decode cX0_anyHolds 6 = .ok (.getfield 42, 3) := by decide +kernel
theorem dX0_anyHolds_9 : decode cX0_anyHolds 9 = .ok (.getfield 286, 3) := by decide +kernel
theorem dX0_anyHolds_12 : decode cX0_anyHolds 12 = .ok (.if_icmp .ge 90, 3) := by decide +kernel
theorem dX0_anyHolds_102 : decode cX0_anyHolds 102 = .ok (.iconst 0, 1) := by decide +kernel
theorem dX0_anyHolds_103 : decode cX0_anyHolds 103 = .ok (.ireturn, 1) := by decide +kernel
theorem dX0_anyHolds_15 : decode cX0_anyHolds 15 = .ok (.aload_n 0, 1) := by decide +kernel
theorem dX0_anyHolds_16 : decode cX0_anyHolds 16 = .ok (.getfield 42, 3) := by decide +kernel
theorem dX0_anyHolds_19 : decode cX0_anyHolds 19 = .ok (.getfield 287, 3) := by decide +kernel
theorem dX0_anyHolds_22 : decode cX0_anyHolds 22 = .ok (.iload 4, 2) := by decide +kernel
theorem dX0_anyHolds_24 : decode cX0_anyHolds 24 = .ok (.aaload, 1) := by decide +kernel
theorem dX0_anyHolds_25 : decode cX0_anyHolds 25 = .ok (.astore 5, 2) := by decide +kernel
theorem dX0_anyHolds_27 : decode cX0_anyHolds 27 = .ok (.iconst 0, 1) := by decide +kernel
theorem dX0_anyHolds_28 : decode cX0_anyHolds 28 = .ok (.istore 6, 2) := by decide +kernel
theorem dX0_anyHolds_30 : decode cX0_anyHolds 30 = .ok (.aload 5, 2) := by decide +kernel
theorem dX0_anyHolds_32 : decode cX0_anyHolds 32 = .ok (.ifnull 64, 3) := by decide +kernel
theorem dX0_anyHolds_96 : decode cX0_anyHolds 96 = .ok (.iinc 4 1, 3) := by decide +kernel
theorem dX0_anyHolds_99 : decode cX0_anyHolds 99 = .ok (.goto (-96), 3) := by decide +kernel
theorem dX0_anyHolds_35 : decode cX0_anyHolds 35 = .ok (.iload 6, 2) := by decide +kernel
theorem dX0_anyHolds_37 : decode cX0_anyHolds 37 = .ok (.aload 5, 2) := by decide +kernel
theorem dX0_anyHolds_39 : decode cX0_anyHolds 39 = .ok (.getfield 291, 3) := by decide +kernel
theorem dX0_anyHolds_42 : decode cX0_anyHolds 42 = .ok (.if_icmp .ge 54, 3) := by decide +kernel
theorem dX0_anyHolds_45 : decode cX0_anyHolds 45 = .ok (.aload 5, 2) := by decide +kernel
theorem dX0_anyHolds_47 : decode cX0_anyHolds 47 = .ok (.getfield 296, 3) := by decide +kernel
theorem dX0_anyHolds_50 : decode cX0_anyHolds 50 = .ok (.iload 6, 2) := by decide +kernel
theorem dX0_anyHolds_52 : decode cX0_anyHolds 52 = .ok (.iaload, 1) := by decide +kernel
theorem dX0_anyHolds_53 : decode cX0_anyHolds 53 = .ok (.iload_n 1, 1) := by decide +kernel
theorem dX0_anyHolds_54 : decode cX0_anyHolds 54 = .ok (.if_icmp .ne 36, 3) := by decide +kernel
theorem dX0_anyHolds_90 : decode cX0_anyHolds 90 = .ok (.iinc 6 1, 3) := by decide +kernel
theorem dX0_anyHolds_93 : decode cX0_anyHolds 93 = .ok (.goto (-63), 3) := by decide +kernel
theorem dX0_anyHolds_57 : decode cX0_anyHolds 57 = .ok (.aload_n 0, 1) := by decide +kernel
theorem dX0_anyHolds_58 : decode cX0_anyHolds 58 = .ok (.getfield 42, 3) := by decide +kernel
theorem dX0_anyHolds_61 : decode cX0_anyHolds 61 = .ok (.iload 4, 2) := by decide +kernel
theorem dX0_anyHolds_63 : decode cX0_anyHolds 63 = .ok (.iload 6, 2) := by decide +kernel
theorem dX0_anyHolds_65 : decode cX0_anyHolds 65 = .ok (.invokevirtual 299, 3) := by decide +kernel
theorem dX0_anyHolds_68 : decode cX0_anyHolds 68 = .ok (.ifCond .eq 22, 3) := by decide +kernel
theorem dX0_anyHolds_71 : decode cX0_anyHolds 71 = .ok (.aload_n 0, 1) := by decide +kernel
theorem dX0_anyHolds_72 : decode cX0_anyHolds 72 = .ok (.aload 5, 2) := by decide +kernel
theorem dX0_anyHolds_74 : decode cX0_anyHolds 74 = .ok (.iload 6, 2) := by decide +kernel
theorem dX0_anyHolds_76 : decode cX0_anyHolds 76 = .ok (.iload_n 2, 1) := by decide +kernel
theorem dX0_anyHolds_77 : decode cX0_anyHolds 77 = .ok (.iload_n 3, 1) := by decide +kernel
theorem dX0_anyHolds_78 : decode cX0_anyHolds 78 = .ok (.invokevirtual 302, 3) := by decide +kernel
theorem dX0_ask_0 : decode cX0_ask 0 = .ok (.iconst 0, 1) := by decide +kernel
theorem dX0_ask_1 : decode cX0_ask 1 = .ok (.istore 5, 2) := by decide +kernel
theorem dX0_ask_3 : decode cX0_ask 3 = .ok (.iconst 0, 1) := by decide +kernel
theorem dX0_ask_4 : decode cX0_ask 4 = .ok (.istore 6, 2) := by decide +kernel
theorem dX0_ask_6 : decode cX0_ask 6 = .ok (.aload_n 0, 1) := by decide +kernel
theorem dX0_ask_7 : decode cX0_ask 7 = .ok (.getfield 57, 3) := by decide +kernel
theorem dX0_ask_10 : decode cX0_ask 10 = .ok (.iconst 0, 1) := by decide +kernel
theorem dX0_ask_11 : decode cX0_ask 11 = .ok (.lconst 0, 1) := by decide +kernel
theorem dX0_ask_12 : decode cX0_ask 12 = .ok (.lastore, 1) := by decide +kernel
theorem dX0_ask_13 : decode cX0_ask 13 = .ok (.aload_n 1, 1) := by decide +kernel
theorem dX0_ask_14 : decode cX0_ask 14 = .ok (.getfield 314, 3) := by decide +kernel
theorem dX0_ask_17 : decode cX0_ask 17 = .ok (.iload_n 2, 1) := by decide +kernel
theorem dX0_ask_18 : decode cX0_ask 18 = .ok (.iaload, 1) := by decide +kernel
theorem dX0_ask_19 : decode cX0_ask 19 = .ok (.istore 7, 2) := by decide +kernel
theorem dX0_ask_21 : decode cX0_ask 21 = .ok (.iload 7, 2) := by decide +kernel
theorem dX0_ask_23 : decode cX0_ask 23 = .ok (.aload_n 1, 1) := by decide +kernel
theorem dX0_ask_24 : decode cX0_ask 24 = .ok (.getfield 317, 3) := by decide +kernel
theorem dX0_ask_27 : decode cX0_ask 27 = .ok (.iload_n 2, 1) := by decide +kernel
theorem dX0_ask_28 : decode cX0_ask 28 = .ok (.iaload, 1) := by decide +kernel
theorem dX0_ask_29 : decode cX0_ask 29 = .ok (.if_icmp .ge 291, 3) := by decide +kernel
theorem dX0_ask_320 : decode cX0_ask 320 = .ok (.aload_n 0, 1) := by decide +kernel
theorem dX0_ask_321 : decode cX0_ask 321 = .ok (.getfield 57, 3) := by decide +kernel
theorem dX0_ask_324 : decode cX0_ask 324 = .ok (.iconst 0, 1) := by decide +kernel
theorem dX0_ask_325 : decode cX0_ask 325 = .ok (.laload, 1) := by decide +kernel
theorem dX0_ask_326 : decode cX0_ask 326 = .ok (.lreturn, 1) := by decide +kernel
theorem dX0_ask_32 : decode cX0_ask 32 = .ok (.iload 7, 2) := by decide +kernel
theorem dX0_ask_34 : decode cX0_ask 34 = .ok (.iload 6, 2) := by decide +kernel
theorem dX0_ask_36 : decode cX0_ask 36 = .ok (.if_icmp .ge 6, 3) := by decide +kernel
theorem dX0_ask_42 : decode cX0_ask 42 = .ok (.aload_n 1, 1) := by decide +kernel
theorem dX0_ask_43 : decode cX0_ask 43 = .ok (.getfield 320, 3) := by decide +kernel
theorem dX0_ask_46 : decode cX0_ask 46 = .ok (.iload 7, 2) := by decide +kernel
theorem dX0_ask_48 : decode cX0_ask 48 = .ok (.iaload, 1) := by decide +kernel
theorem dX0_ask_49 : decode cX0_ask 49 = .ok (.istore 8, 2) := by decide +kernel
theorem dX0_ask_51 : decode cX0_ask 51 = .ok (.iload 8, 2) := by decide +kernel
theorem dX0_ask_53 : decode cX0_ask 53 = .ok (.sipush 301, 3) := by decide +kernel
theorem dX0_ask_56 : decode cX0_ask 56 = .ok (.if_icmp .eq 19, 3) := by decide +kernel
theorem dX0_ask_75 : decode cX0_ask 75 = .ok (.iload 5, 2) := by decide +kernel
theorem dX0_ask_77 : decode cX0_ask 77 = .ok (.bipush 64, 2) := by decide +kernel
theorem dX0_ask_79 : decode cX0_ask 79 = .ok (.if_icmp .lt 7, 3) := by decide +kernel
theorem dX0_ask_86 : decode cX0_ask 86 = .ok (.aload_n 0, 1) := by decide +kernel
theorem dX0_ask_87 : decode cX0_ask 87 = .ok (.getfield 57, 3) := by decide +kernel
theorem dX0_ask_90 : decode cX0_ask 90 = .ok (.iload 5, 2) := by decide +kernel
theorem dX0_ask_92 : decode cX0_ask 92 = .ok (.iload 8, 2) := by decide +kernel
theorem dX0_ask_94 : decode cX0_ask 94 = .ok (.sipush 301, 3) := by decide +kernel
theorem dX0_ask_97 : decode cX0_ask 97 = .ok (.if_icmp .ne 14, 3) := by decide +kernel
theorem dX0_ask_100 : decode cX0_ask 100 = .ok (.aload_n 1, 1) := by decide +kernel
theorem dX0_ask_101 : decode cX0_ask 101 = .ok (.getfield 323, 3) := by decide +kernel
theorem dX0_ask_104 : decode cX0_ask 104 = .ok (.iload 7, 2) := by decide +kernel
theorem dX0_ask_106 : decode cX0_ask 106 = .ok (.iaload, 1) := by decide +kernel
theorem dX0_ask_107 : decode cX0_ask 107 = .ok (.i2l, 1) := by decide +kernel
theorem dX0_ask_108 : decode cX0_ask 108 = .ok (.goto 13, 3) := by decide +kernel
theorem dX0_ask_121 : decode cX0_ask 121 = .ok (.lastore, 1) := by decide +kernel
theorem dX0_ask_122 : decode cX0_ask 122 = .ok (.iinc 5 1, 3) := by decide +kernel
theorem dX0_ask_125 : decode cX0_ask 125 = .ok (.goto 189, 3) := by decide +kernel
theorem dX0_ask_314 : decode cX0_ask 314 = .ok (.iinc 7 1, 3) := by decide +kernel
theorem dX0_ask_317 : decode cX0_ask 317 = .ok (.goto (-296), 3) := by decide +kernel
theorem dX0_ask_82 : decode cX0_ask 82 = .ok (.ldc2_w 306, 3) := by decide +kernel
theorem dX0_ask_85 : decode cX0_ask 85 = .ok (.lreturn, 1) := by decide +kernel
theorem dX0_ask_59 : decode cX0_ask 59 = .ok (.iload 8, 2) := by decide +kernel
theorem dX0_ask_61 : decode cX0_ask 61 = .ok (.sipush 268, 3) := by decide +kernel
theorem dX0_ask_64 : decode cX0_ask 64 = .ok (.if_icmp .lt 64, 3) := by decide +kernel
theorem dX0_ask_128 : decode cX0_ask 128 = .ok (.iload 5, 2) := by decide +kernel
theorem dX0_ask_130 : decode cX0_ask 130 = .ok (.iconst 1, 1) := by decide +kernel
theorem dX0_ask_131 : decode cX0_ask 131 = .ok (.if_icmp .ge 7, 3) := by decide +kernel
theorem dX0_ask_138 : decode cX0_ask 138 = .ok (.aload_n 0, 1) := by decide +kernel
theorem dX0_ask_139 : decode cX0_ask 139 = .ok (.getfield 57, 3) := by decide +kernel
theorem dX0_ask_142 : decode cX0_ask 142 = .ok (.iload 5, 2) := by decide +kernel
theorem dX0_ask_144 : decode cX0_ask 144 = .ok (.iconst 1, 1) := by decide +kernel
theorem dX0_ask_145 : decode cX0_ask 145 = .ok (.isub, 1) := by decide +kernel
theorem dX0_ask_146 : decode cX0_ask 146 = .ok (.laload, 1) := by decide +kernel
theorem dX0_ask_147 : decode cX0_ask 147 = .ok (.lconst 0, 1) := by decide +kernel
theorem dX0_ask_148 : decode cX0_ask 148 = .ok (.lcmp, 1) := by decide +kernel
theorem dX0_ask_149 : decode cX0_ask 149 = .ok (.ifCond .eq 7, 3) := by decide +kernel
theorem dX0_ask_157 : decode cX0_ask 157 = .ok (.istore 9, 2) := by decide +kernel
theorem dX0_ask_159 : decode cX0_ask 159 = .ok (.iload 8, 2) := by decide +kernel
theorem dX0_ask_161 : decode cX0_ask 161 = .ok (.sipush 267, 3) := by decide +kernel
theorem dX0_ask_164 : decode cX0_ask 164 = .ok (.if_icmp .ne 25, 3) := by decide +kernel
theorem dX0_ask_189 : decode cX0_ask 189 = .ok (.iload 8, 2) := by decide +kernel
theorem dX0_ask_191 : decode cX0_ask 191 = .ok (.sipush 259, 3) := by decide +kernel
theorem dX0_ask_194 : decode cX0_ask 194 = .ok (.if_icmp .ne 12, 3) := by decide +kernel
theorem dX0_ask_206 : decode cX0_ask 206 = .ok (.iload 8, 2) := by decide +kernel
theorem dX0_ask_208 : decode cX0_ask 208 = .ok (.sipush 265, 3) := by decide +kernel
theorem dX0_ask_211 : decode cX0_ask 211 = .ok (.if_icmp .ne 8, 3) := by decide +kernel
theorem dX0_ask_219 : decode cX0_ask 219 = .ok (.iload 8, 2) := by decide +kernel
theorem dX0_ask_221 : decode cX0_ask 221 = .ok (.sipush 266, 3) := by decide +kernel
theorem dX0_ask_224 : decode cX0_ask 224 = .ok (.if_icmp .ne 20, 3) := by decide +kernel
theorem dX0_ask_244 : decode cX0_ask 244 = .ok (.iinc 5 (-1), 3) := by decide +kernel
theorem dX0_ask_247 : decode cX0_ask 247 = .ok (.iload 8, 2) := by decide +kernel
theorem dX0_ask_249 : decode cX0_ask 249 = .ok (.sipush 256, 3) := by decide +kernel
theorem dX0_ask_252 : decode cX0_ask 252 = .ok (.if_icmp .ge 62, 3) := by decide +kernel
theorem dX0_ask_255 : decode cX0_ask 255 = .ok (.iload 5, 2) := by decide +kernel
theorem dX0_ask_257 : decode cX0_ask 257 = .ok (.iconst 1, 1) := by decide +kernel
theorem dX0_ask_258 : decode cX0_ask 258 = .ok (.if_icmp .ge 9, 3) := by decide +kernel
theorem dX0_ask_267 : decode cX0_ask 267 = .ok (.iload 8, 2) := by decide +kernel
theorem dX0_ask_269 : decode cX0_ask 269 = .ok (.aload_n 0, 1) := by decide +kernel
theorem dX0_ask_270 : decode cX0_ask 270 = .ok (.getfield 57, 3) := by decide +kernel
theorem dX0_ask_273 : decode cX0_ask 273 = .ok (.iload 5, 2) := by decide +kernel
theorem dX0_ask_275 : decode cX0_ask 275 = .ok (.iconst 1, 1) := by decide +kernel
theorem dX0_ask_276 : decode cX0_ask 276 = .ok (.isub, 1) := by decide +kernel
theorem dX0_ask_277 : decode cX0_ask 277 = .ok (.laload, 1) := by decide +kernel
theorem dX0_ask_278 : decode cX0_ask 278 = .ok (.aload_n 0, 1) := by decide +kernel
theorem dX0_ask_279 : decode cX0_ask 279 = .ok (.getfield 57, 3) := by decide +kernel
theorem dX0_ask_282 : decode cX0_ask 282 = .ok (.iload 5, 2) := by decide +kernel
theorem dX0_ask_284 : decode cX0_ask 284 = .ok (.laload, 1) := by decide +kernel
theorem dX0_ask_285 : decode cX0_ask 285 = .ok (.invokestatic 330, 3) := by decide +kernel
theorem dX0_join_0 : decode cX0_join 0 = .ok (.iload_n 0, 1) := by decide +kernel
theorem dX0_join_1 : decode cX0_join 1 = .ok (.lookupswitch 135 #[(42, 75), (43, 59), (45, 67), (47, 83), (60, 103), (62, 119)], 59) := by decide +kernel
theorem dX0_join_149 : decode cX0_join 149 = .ok (.lload 5, 2) := by decide +kernel
theorem dX0_join_151 : decode cX0_join 151 = .ok (.ldc2_w 334, 3) := by decide +kernel
theorem dX0_join_154 : decode cX0_join 154 = .ok (.lcmp, 1) := by decide +kernel
theorem dX0_join_155 : decode cX0_join 155 = .ok (.ifCond .lt 12, 3) := by decide +kernel
theorem dX0_join_175 : decode cX0_join 175 = .ok (.lreturn, 1) := by decide +kernel
theorem dX0_join_167 : decode cX0_join 167 = .ok (.ldc2_w 306, 3) := by decide +kernel
theorem dX0_join_170 : decode cX0_join 170 = .ok (.goto 5, 3) := by decide +kernel
theorem dX0_join_158 : decode cX0_join 158 = .ok (.lload 5, 2) := by decide +kernel
theorem dX0_join_160 : decode cX0_join 160 = .ok (.ldc2_w 336, 3) := by decide +kernel
theorem dX0_join_163 : decode cX0_join 163 = .ok (.lcmp, 1) := by decide +kernel
theorem dX0_join_164 : decode cX0_join 164 = .ok (.ifCond .le 9, 3) := by decide +kernel
theorem dX0_join_173 : decode cX0_join 173 = .ok (.lload 5, 2) := by decide +kernel
theorem dX0_join_76 : decode cX0_join 76 = .ok (.lload_n 1, 1) := by decide +kernel
theorem dX0_join_77 : decode cX0_join 77 = .ok (.lload_n 3, 1) := by decide +kernel
theorem dX0_join_78 : decode cX0_join 78 = .ok (.lmul, 1) := by decide +kernel
theorem dX0_join_79 : decode cX0_join 79 = .ok (.lstore 5, 2) := by decide +kernel
theorem dX0_join_81 : decode cX0_join 81 = .ok (.goto 68, 3) := by decide +kernel
theorem dX0_join_60 : decode cX0_join 60 = .ok (.lload_n 1, 1) := by decide +kernel
theorem dX0_join_61 : decode cX0_join 61 = .ok (.lload_n 3, 1) := by decide +kernel
theorem dX0_join_62 : decode cX0_join 62 = .ok (.ladd, 1) := by decide +kernel
theorem dX0_join_63 : decode cX0_join 63 = .ok (.lstore 5, 2) := by decide +kernel
theorem dX0_join_65 : decode cX0_join 65 = .ok (.goto 84, 3) := by decide +kernel
theorem dX0_join_68 : decode cX0_join 68 = .ok (.lload_n 1, 1) := by decide +kernel
theorem dX0_join_69 : decode cX0_join 69 = .ok (.lload_n 3, 1) := by decide +kernel
theorem dX0_join_70 : decode cX0_join 70 = .ok (.lsub, 1) := by decide +kernel
theorem dX0_join_71 : decode cX0_join 71 = .ok (.lstore 5, 2) := by decide +kernel
theorem dX0_join_73 : decode cX0_join 73 = .ok (.goto 76, 3) := by decide +kernel
theorem dX0_join_84 : decode cX0_join 84 = .ok (.lload_n 3, 1) := by decide +kernel
theorem dX0_join_85 : decode cX0_join 85 = .ok (.lconst 0, 1) := by decide +kernel
theorem dX0_join_86 : decode cX0_join 86 = .ok (.lcmp, 1) := by decide +kernel
theorem dX0_join_87 : decode cX0_join 87 = .ok (.ifCond .ne 9, 3) := by decide +kernel
theorem dX0_join_99 : decode cX0_join 99 = .ok (.lstore 5, 2) := by decide +kernel
theorem dX0_join_101 : decode cX0_join 101 = .ok (.goto 48, 3) := by decide +kernel
theorem dX0_join_96 : decode cX0_join 96 = .ok (.lload_n 1, 1) := by decide +kernel
theorem dX0_join_97 : decode cX0_join 97 = .ok (.lload_n 3, 1) := by decide +kernel
theorem dX0_join_98 : decode cX0_join 98 = .ok (.ldiv, 1) := by decide +kernel
theorem dX0_join_90 : decode cX0_join 90 = .ok (.ldc2_w 306, 3) := by decide +kernel
theorem dX0_join_93 : decode cX0_join 93 = .ok (.goto 6, 3) := by decide +kernel
theorem dX0_join_104 : decode cX0_join 104 = .ok (.lload_n 1, 1) := by decide +kernel
theorem dX0_join_105 : decode cX0_join 105 = .ok (.lload_n 3, 1) := by decide +kernel
theorem dX0_join_106 : decode cX0_join 106 = .ok (.lcmp, 1) := by decide +kernel
theorem dX0_join_107 : decode cX0_join 107 = .ok (.ifCond .ge 7, 3) := by decide +kernel
theorem dX0_join_115 : decode cX0_join 115 = .ok (.lstore 5, 2) := by decide +kernel
theorem dX0_join_117 : decode cX0_join 117 = .ok (.goto 32, 3) := by decide +kernel
theorem dX0_join_114 : decode cX0_join 114 = .ok (.lconst 0, 1) := by decide +kernel
theorem dX0_join_110 : decode cX0_join 110 = .ok (.lconst 1, 1) := by decide +kernel
theorem dX0_join_111 : decode cX0_join 111 = .ok (.goto 4, 3) := by decide +kernel
theorem dX0_join_120 : decode cX0_join 120 = .ok (.lload_n 1, 1) := by decide +kernel
theorem dX0_join_121 : decode cX0_join 121 = .ok (.lload_n 3, 1) := by decide +kernel
theorem dX0_join_122 : decode cX0_join 122 = .ok (.lcmp, 1) := by decide +kernel
theorem dX0_join_123 : decode cX0_join 123 = .ok (.ifCond .le 7, 3) := by decide +kernel
theorem dX0_join_131 : decode cX0_join 131 = .ok (.lstore 5, 2) := by decide +kernel
theorem dX0_join_133 : decode cX0_join 133 = .ok (.goto 16, 3) := by decide +kernel
theorem dX0_join_130 : decode cX0_join 130 = .ok (.lconst 0, 1) := by decide +kernel
theorem dX0_join_126 : decode cX0_join 126 = .ok (.lconst 1, 1) := by decide +kernel
theorem dX0_join_127 : decode cX0_join 127 = .ok (.goto 4, 3) := by decide +kernel
theorem dX0_join_136 : decode cX0_join 136 = .ok (.lload_n 1, 1) := by decide +kernel
theorem dX0_join_137 : decode cX0_join 137 = .ok (.lload_n 3, 1) := by decide +kernel
theorem dX0_join_138 : decode cX0_join 138 = .ok (.lcmp, 1) := by decide +kernel
theorem dX0_join_139 : decode cX0_join 139 = .ok (.ifCond .ne 7, 3) := by decide +kernel
theorem dX0_join_147 : decode cX0_join 147 = .ok (.lstore 5, 2) := by decide +kernel
theorem dX0_join_146 : decode cX0_join 146 = .ok (.lconst 0, 1) := by decide +kernel
theorem dX0_join_142 : decode cX0_join 142 = .ok (.lconst 1, 1) := by decide +kernel
theorem dX0_join_143 : decode cX0_join 143 = .ok (.goto 4, 3) := by decide +kernel
theorem dX0_ask_288 : decode cX0_ask 288 = .ok (.lstore 10, 2) := by decide +kernel
theorem dX0_ask_290 : decode cX0_ask 290 = .ok (.lload 10, 2) := by decide +kernel
theorem dX0_ask_292 : decode cX0_ask 292 = .ok (.ldc2_w 306, 3) := by decide +kernel
theorem dX0_ask_295 : decode cX0_ask 295 = .ok (.lcmp, 1) := by decide +kernel
theorem dX0_ask_296 : decode cX0_ask 296 = .ok (.ifCond .ne 7, 3) := by decide +kernel
theorem dX0_ask_303 : decode cX0_ask 303 = .ok (.aload_n 0, 1) := by decide +kernel
theorem dX0_ask_304 : decode cX0_ask 304 = .ok (.getfield 57, 3) := by decide +kernel
theorem dX0_ask_307 : decode cX0_ask 307 = .ok (.iload 5, 2) := by decide +kernel
theorem dX0_ask_309 : decode cX0_ask 309 = .ok (.iconst 1, 1) := by decide +kernel
theorem dX0_ask_310 : decode cX0_ask 310 = .ok (.isub, 1) := by decide +kernel
theorem dX0_ask_311 : decode cX0_ask 311 = .ok (.lload 10, 2) := by decide +kernel
theorem dX0_ask_313 : decode cX0_ask 313 = .ok (.lastore, 1) := by decide +kernel
theorem dX0_ask_299 : decode cX0_ask 299 = .ok (.ldc2_w 306, 3) := by decide +kernel
theorem dX0_ask_302 : decode cX0_ask 302 = .ok (.lreturn, 1) := by decide +kernel
theorem dX0_ask_261 : decode cX0_ask 261 = .ok (.ldc2_w 306, 3) := by decide +kernel
theorem dX0_ask_264 : decode cX0_ask 264 = .ok (.goto 24, 3) := by decide +kernel
theorem dX0_ask_227 : decode cX0_ask 227 = .ok (.iload 9, 2) := by decide +kernel
theorem dX0_ask_229 : decode cX0_ask 229 = .ok (.ifCond .ne 15, 3) := by decide +kernel
theorem dX0_ask_232 : decode cX0_ask 232 = .ok (.aload_n 1, 1) := by decide +kernel
theorem dX0_ask_233 : decode cX0_ask 233 = .ok (.getfield 323, 3) := by decide +kernel
theorem dX0_ask_236 : decode cX0_ask 236 = .ok (.iload 7, 2) := by decide +kernel
theorem dX0_ask_238 : decode cX0_ask 238 = .ok (.iaload, 1) := by decide +kernel
theorem dX0_ask_239 : decode cX0_ask 239 = .ok (.istore 6, 2) := by decide +kernel
theorem dX0_ask_241 : decode cX0_ask 241 = .ok (.goto 73, 3) := by decide +kernel
theorem dX0_ask_214 : decode cX0_ask 214 = .ok (.iload 9, 2) := by decide +kernel
theorem dX0_ask_216 : decode cX0_ask 216 = .ok (.ifCond .ne 16, 3) := by decide +kernel
theorem dX0_ask_197 : decode cX0_ask 197 = .ok (.iload 9, 2) := by decide +kernel
theorem dX0_ask_199 : decode cX0_ask 199 = .ok (.ifCond .ne 7, 3) := by decide +kernel
theorem dX0_ask_202 : decode cX0_ask 202 = .ok (.ldc2_w 306, 3) := by decide +kernel
theorem dX0_ask_205 : decode cX0_ask 205 = .ok (.lreturn, 1) := by decide +kernel
theorem dX0_ask_167 : decode cX0_ask 167 = .ok (.aload_n 0, 1) := by decide +kernel
theorem dX0_ask_168 : decode cX0_ask 168 = .ok (.getfield 57, 3) := by decide +kernel
theorem dX0_ask_171 : decode cX0_ask 171 = .ok (.iload 5, 2) := by decide +kernel
theorem dX0_ask_173 : decode cX0_ask 173 = .ok (.iconst 1, 1) := by decide +kernel
theorem dX0_ask_174 : decode cX0_ask 174 = .ok (.isub, 1) := by decide +kernel
theorem dX0_ask_175 : decode cX0_ask 175 = .ok (.iload 9, 2) := by decide +kernel
theorem dX0_ask_177 : decode cX0_ask 177 = .ok (.ifCond .eq 7, 3) := by decide +kernel
theorem dX0_ask_185 : decode cX0_ask 185 = .ok (.lastore, 1) := by decide +kernel
theorem dX0_ask_186 : decode cX0_ask 186 = .ok (.goto 128, 3) := by decide +kernel
theorem dX0_ask_184 : decode cX0_ask 184 = .ok (.lconst 1, 1) := by decide +kernel
theorem dX0_ask_180 : decode cX0_ask 180 = .ok (.lconst 0, 1) := by decide +kernel
theorem dX0_ask_181 : decode cX0_ask 181 = .ok (.goto 4, 3) := by decide +kernel
theorem dX0_ask_156 : decode cX0_ask 156 = .ok (.iconst 0, 1) := by decide +kernel
theorem dX0_ask_152 : decode cX0_ask 152 = .ok (.iconst 1, 1) := by decide +kernel
theorem dX0_ask_153 : decode cX0_ask 153 = .ok (.goto 4, 3) := by decide +kernel
theorem dX0_ask_134 : decode cX0_ask 134 = .ok (.ldc2_w 306, 3) := by decide +kernel
theorem dX0_ask_137 : decode cX0_ask 137 = .ok (.lreturn, 1) := by decide +kernel
theorem dX0_ask_67 : decode cX0_ask 67 = .ok (.iload 8, 2) := by decide +kernel
theorem dX0_ask_69 : decode cX0_ask 69 = .ok (.sipush 282, 3) := by decide +kernel
theorem dX0_ask_72 : decode cX0_ask 72 = .ok (.if_icmp .gt 56, 3) := by decide +kernel
theorem dX0_ask_111 : decode cX0_ask 111 = .ok (.aload_n 0, 1) := by decide +kernel
theorem dX0_ask_112 : decode cX0_ask 112 = .ok (.iload 8, 2) := by decide +kernel
theorem dX0_ask_114 : decode cX0_ask 114 = .ok (.iload_n 3, 1) := by decide +kernel
theorem dX0_ask_115 : decode cX0_ask 115 = .ok (.iload 4, 2) := by decide +kernel
theorem dX0_ask_117 : decode cX0_ask 117 = .ok (.invokevirtual 326, 3) := by decide +kernel
theorem dX0_wordOf_0 : decode cX0_wordOf 0 = .ok (.iload_n 1, 1) := by decide +kernel
theorem dX0_wordOf_1 : decode cX0_wordOf 1 = .ok (.sipush 276, 3) := by decide +kernel
theorem dX0_wordOf_4 : decode cX0_wordOf 4 = .ok (.if_icmp .gt 17, 3) := by decide +kernel
theorem dX0_wordOf_21 : decode cX0_wordOf 21 = .ok (.iload_n 1, 1) := by decide +kernel
theorem dX0_wordOf_22 : decode cX0_wordOf 22 = .ok (.sipush 280, 3) := by decide +kernel
theorem dX0_wordOf_25 : decode cX0_wordOf 25 = .ok (.if_icmp .gt 16, 3) := by decide +kernel
theorem dX0_wordOf_41 : decode cX0_wordOf 41 = .ok (.iload_n 1, 1) := by decide +kernel
theorem dX0_wordOf_42 : decode cX0_wordOf 42 = .ok (.tableswitch 236 268 282 #[124, 141, 160, 170, 187, 197, 207, 217, 227, 74, 84, 94, 104, 114, 119], 74) := by decide +kernel
theorem dX0_wordOf_156 : decode cX0_wordOf 156 = .ok (.aload_n 0, 1) := by decide +kernel
theorem dX0_wordOf_157 : decode cX0_wordOf 157 = .ok (.getfield 93, 3) := by decide +kernel
theorem dX0_wordOf_160 : decode cX0_wordOf 160 = .ok (.ireturn, 1) := by decide +kernel
theorem dX0_wordOf_161 : decode cX0_wordOf 161 = .ok (.aload_n 0, 1) := by decide +kernel
theorem dX0_wordOf_162 : decode cX0_wordOf 162 = .ok (.getfield 121, 3) := by decide +kernel
theorem dX0_wordOf_165 : decode cX0_wordOf 165 = .ok (.ireturn, 1) := by decide +kernel
theorem dX0_wordOf_278 : decode cX0_wordOf 278 = .ok (.iconst 0, 1) := by decide +kernel
theorem dX0_wordOf_279 : decode cX0_wordOf 279 = .ok (.ireturn, 1) := by decide +kernel
theorem dX0_wordOf_28 : decode cX0_wordOf 28 = .ok (.aload_n 0, 1) := by decide +kernel
theorem dX0_wordOf_29 : decode cX0_wordOf 29 = .ok (.getfield 21, 3) := by decide +kernel
theorem dX0_wordOf_32 : decode cX0_wordOf 32 = .ok (.iload_n 3, 1) := by decide +kernel
theorem dX0_wordOf_33 : decode cX0_wordOf 33 = .ok (.invokevirtual 341, 3) := by decide +kernel
theorem dX0_wordOf_36 : decode cX0_wordOf 36 = .ok (.ifCond .ne 5, 3) := by decide +kernel
theorem dX0_wordOf_116 : decode cX0_wordOf 116 = .ok (.aload_n 0, 1) := by decide +kernel
theorem dX0_wordOf_117 : decode cX0_wordOf 117 = .ok (.getfield 21, 3) := by decide +kernel
theorem dX0_wordOf_120 : decode cX0_wordOf 120 = .ok (.getfield 172, 3) := by decide +kernel
theorem dX0_wordOf_123 : decode cX0_wordOf 123 = .ok (.iload_n 3, 1) := by decide +kernel
theorem dX0_wordOf_124 : decode cX0_wordOf 124 = .ok (.iaload, 1) := by decide +kernel
theorem dX0_wordOf_125 : decode cX0_wordOf 125 = .ok (.ireturn, 1) := by decide +kernel
theorem dX0_wordOf_126 : decode cX0_wordOf 126 = .ok (.aload_n 0, 1) := by decide +kernel
theorem dX0_wordOf_127 : decode cX0_wordOf 127 = .ok (.getfield 21, 3) := by decide +kernel
theorem dX0_wordOf_130 : decode cX0_wordOf 130 = .ok (.getfield 342, 3) := by decide +kernel
theorem dX0_wordOf_133 : decode cX0_wordOf 133 = .ok (.iload_n 3, 1) := by decide +kernel
theorem dX0_wordOf_134 : decode cX0_wordOf 134 = .ok (.iaload, 1) := by decide +kernel
theorem dX0_wordOf_135 : decode cX0_wordOf 135 = .ok (.ireturn, 1) := by decide +kernel
theorem dX0_wordOf_136 : decode cX0_wordOf 136 = .ok (.aload_n 0, 1) := by decide +kernel
theorem dX0_wordOf_137 : decode cX0_wordOf 137 = .ok (.getfield 21, 3) := by decide +kernel
theorem dX0_wordOf_140 : decode cX0_wordOf 140 = .ok (.getfield 188, 3) := by decide +kernel
theorem dX0_wordOf_143 : decode cX0_wordOf 143 = .ok (.iload_n 3, 1) := by decide +kernel
theorem dX0_wordOf_144 : decode cX0_wordOf 144 = .ok (.iaload, 1) := by decide +kernel
theorem dX0_wordOf_145 : decode cX0_wordOf 145 = .ok (.ireturn, 1) := by decide +kernel
theorem dX0_wordOf_146 : decode cX0_wordOf 146 = .ok (.aload_n 0, 1) := by decide +kernel
theorem dX0_wordOf_147 : decode cX0_wordOf 147 = .ok (.getfield 21, 3) := by decide +kernel
theorem dX0_wordOf_150 : decode cX0_wordOf 150 = .ok (.getfield 204, 3) := by decide +kernel
theorem dX0_wordOf_153 : decode cX0_wordOf 153 = .ok (.iload_n 3, 1) := by decide +kernel
theorem dX0_wordOf_154 : decode cX0_wordOf 154 = .ok (.iaload, 1) := by decide +kernel
theorem dX0_wordOf_155 : decode cX0_wordOf 155 = .ok (.ireturn, 1) := by decide +kernel
theorem dX0_wordOf_39 : decode cX0_wordOf 39 = .ok (.iconst 0, 1) := by decide +kernel
theorem dX0_wordOf_40 : decode cX0_wordOf 40 = .ok (.ireturn, 1) := by decide +kernel
theorem dX0_wordOf_7 : decode cX0_wordOf 7 = .ok (.aload_n 0, 1) := by decide +kernel
theorem dX0_wordOf_8 : decode cX0_wordOf 8 = .ok (.getfield 12, 3) := by decide +kernel
theorem dX0_wordOf_11 : decode cX0_wordOf 11 = .ok (.iload_n 2, 1) := by decide +kernel
theorem dX0_wordOf_12 : decode cX0_wordOf 12 = .ok (.invokevirtual 338, 3) := by decide +kernel
theorem dX0_wordOf_15 : decode cX0_wordOf 15 = .ok (.ifCond .ne 26, 3) := by decide +kernel
theorem dX0_wordOf_166 : decode cX0_wordOf 166 = .ok (.aload_n 0, 1) := by decide +kernel
theorem dX0_wordOf_167 : decode cX0_wordOf 167 = .ok (.getfield 21, 3) := by decide +kernel
theorem dX0_wordOf_170 : decode cX0_wordOf 170 = .ok (.iload_n 2, 1) := by decide +kernel
theorem dX0_wordOf_171 : decode cX0_wordOf 171 = .ok (.invokevirtual 259, 3) := by decide +kernel
theorem dX0_wordOf_174 : decode cX0_wordOf 174 = .ok (.ifCond .eq 7, 3) := by decide +kernel
theorem dX0_wordOf_182 : decode cX0_wordOf 182 = .ok (.ireturn, 1) := by decide +kernel
theorem dX0_wordOf_181 : decode cX0_wordOf 181 = .ok (.iconst 0, 1) := by decide +kernel
theorem dX0_wordOf_177 : decode cX0_wordOf 177 = .ok (.iconst 1, 1) := by decide +kernel
theorem dX0_wordOf_178 : decode cX0_wordOf 178 = .ok (.goto 4, 3) := by decide +kernel
theorem dX0_wordOf_183 : decode cX0_wordOf 183 = .ok (.aload_n 0, 1) := by decide +kernel
theorem dX0_wordOf_184 : decode cX0_wordOf 184 = .ok (.getfield 12, 3) := by decide +kernel
theorem dX0_wordOf_187 : decode cX0_wordOf 187 = .ok (.getfield 130, 3) := by decide +kernel
theorem dX0_wordOf_190 : decode cX0_wordOf 190 = .ok (.iload_n 2, 1) := by decide +kernel
theorem dX0_wordOf_191 : decode cX0_wordOf 191 = .ok (.iaload, 1) := by decide +kernel
theorem dX0_wordOf_192 : decode cX0_wordOf 192 = .ok (.iconst (-1), 1) := by decide +kernel
theorem dX0_wordOf_193 : decode cX0_wordOf 193 = .ok (.if_icmp .ne 7, 3) := by decide +kernel
theorem dX0_wordOf_201 : decode cX0_wordOf 201 = .ok (.ireturn, 1) := by decide +kernel
theorem dX0_wordOf_200 : decode cX0_wordOf 200 = .ok (.iconst 1, 1) := by decide +kernel
theorem dX0_wordOf_196 : decode cX0_wordOf 196 = .ok (.iconst 0, 1) := by decide +kernel
theorem dX0_wordOf_197 : decode cX0_wordOf 197 = .ok (.goto 4, 3) := by decide +kernel
theorem dX0_wordOf_202 : decode cX0_wordOf 202 = .ok (.aload_n 0, 1) := by decide +kernel
theorem dX0_wordOf_203 : decode cX0_wordOf 203 = .ok (.getfield 12, 3) := by decide +kernel
theorem dX0_wordOf_206 : decode cX0_wordOf 206 = .ok (.getfield 277, 3) := by decide +kernel
theorem dX0_wordOf_209 : decode cX0_wordOf 209 = .ok (.iload_n 2, 1) := by decide +kernel
theorem dX0_wordOf_210 : decode cX0_wordOf 210 = .ok (.iaload, 1) := by decide +kernel
theorem dX0_wordOf_211 : decode cX0_wordOf 211 = .ok (.ireturn, 1) := by decide +kernel
theorem dX0_wordOf_212 : decode cX0_wordOf 212 = .ok (.aload_n 0, 1) := by decide +kernel
theorem dX0_wordOf_213 : decode cX0_wordOf 213 = .ok (.getfield 21, 3) := by decide +kernel
theorem dX0_wordOf_216 : decode cX0_wordOf 216 = .ok (.iload_n 2, 1) := by decide +kernel
theorem dX0_wordOf_217 : decode cX0_wordOf 217 = .ok (.invokevirtual 345, 3) := by decide +kernel
theorem dX0_wordOf_220 : decode cX0_wordOf 220 = .ok (.ifCond .eq 7, 3) := by decide +kernel
theorem dX0_wordOf_228 : decode cX0_wordOf 228 = .ok (.ireturn, 1) := by decide +kernel
theorem dX0_wordOf_227 : decode cX0_wordOf 227 = .ok (.iconst 0, 1) := by decide +kernel
theorem dX0_wordOf_223 : decode cX0_wordOf 223 = .ok (.iconst 1, 1) := by decide +kernel
theorem dX0_wordOf_224 : decode cX0_wordOf 224 = .ok (.goto 4, 3) := by decide +kernel
theorem dX0_wordOf_229 : decode cX0_wordOf 229 = .ok (.aload_n 0, 1) := by decide +kernel
theorem dX0_wordOf_230 : decode cX0_wordOf 230 = .ok (.getfield 12, 3) := by decide +kernel
theorem dX0_wordOf_233 : decode cX0_wordOf 233 = .ok (.getfield 213, 3) := by decide +kernel
theorem dX0_wordOf_236 : decode cX0_wordOf 236 = .ok (.iload_n 2, 1) := by decide +kernel
theorem dX0_wordOf_237 : decode cX0_wordOf 237 = .ok (.iaload, 1) := by decide +kernel
theorem dX0_wordOf_238 : decode cX0_wordOf 238 = .ok (.ireturn, 1) := by decide +kernel
theorem dX0_wordOf_239 : decode cX0_wordOf 239 = .ok (.aload_n 0, 1) := by decide +kernel
theorem dX0_wordOf_240 : decode cX0_wordOf 240 = .ok (.getfield 12, 3) := by decide +kernel
theorem dX0_wordOf_243 : decode cX0_wordOf 243 = .ok (.getfield 179, 3) := by decide +kernel
theorem dX0_wordOf_246 : decode cX0_wordOf 246 = .ok (.iload_n 2, 1) := by decide +kernel
theorem dX0_wordOf_247 : decode cX0_wordOf 247 = .ok (.iaload, 1) := by decide +kernel
theorem dX0_wordOf_248 : decode cX0_wordOf 248 = .ok (.ireturn, 1) := by decide +kernel
theorem dX0_wordOf_249 : decode cX0_wordOf 249 = .ok (.aload_n 0, 1) := by decide +kernel
theorem dX0_wordOf_250 : decode cX0_wordOf 250 = .ok (.getfield 12, 3) := by decide +kernel
theorem dX0_wordOf_253 : decode cX0_wordOf 253 = .ok (.getfield 348, 3) := by decide +kernel
theorem dX0_wordOf_256 : decode cX0_wordOf 256 = .ok (.iload_n 2, 1) := by decide +kernel
theorem dX0_wordOf_257 : decode cX0_wordOf 257 = .ok (.iaload, 1) := by decide +kernel
theorem dX0_wordOf_258 : decode cX0_wordOf 258 = .ok (.ireturn, 1) := by decide +kernel
theorem dX0_wordOf_259 : decode cX0_wordOf 259 = .ok (.aload_n 0, 1) := by decide +kernel
theorem dX0_wordOf_260 : decode cX0_wordOf 260 = .ok (.getfield 12, 3) := by decide +kernel
theorem dX0_wordOf_263 : decode cX0_wordOf 263 = .ok (.getfield 351, 3) := by decide +kernel
theorem dX0_wordOf_266 : decode cX0_wordOf 266 = .ok (.iload_n 2, 1) := by decide +kernel
theorem dX0_wordOf_267 : decode cX0_wordOf 267 = .ok (.iaload, 1) := by decide +kernel
theorem dX0_wordOf_268 : decode cX0_wordOf 268 = .ok (.ireturn, 1) := by decide +kernel
theorem dX0_wordOf_269 : decode cX0_wordOf 269 = .ok (.aload_n 0, 1) := by decide +kernel
theorem dX0_wordOf_270 : decode cX0_wordOf 270 = .ok (.getfield 12, 3) := by decide +kernel
theorem dX0_wordOf_273 : decode cX0_wordOf 273 = .ok (.iload_n 2, 1) := by decide +kernel
theorem dX0_wordOf_274 : decode cX0_wordOf 274 = .ok (.invokevirtual 354, 3) := by decide +kernel
theorem dX0_wordOf_277 : decode cX0_wordOf 277 = .ok (.ireturn, 1) := by decide +kernel
theorem dX0_wordOf_18 : decode cX0_wordOf 18 = .ok (.goto 21, 3) := by decide +kernel
theorem dX0_ask_120 : decode cX0_ask 120 = .ok (.i2l, 1) := by decide +kernel
theorem dX0_ask_39 : decode cX0_ask 39 = .ok (.goto 275, 3) := by decide +kernel
theorem dX0_anyHolds_81 : decode cX0_anyHolds 81 = .ok (.ldc2_w 306, 3) := by decide +kernel
theorem dX0_anyHolds_84 : decode cX0_anyHolds 84 = .ok (.lcmp, 1) := by decide +kernel
theorem dX0_anyHolds_85 : decode cX0_anyHolds 85 = .ok (.ifCond .eq 5, 3) := by decide +kernel
theorem dX0_anyHolds_88 : decode cX0_anyHolds 88 = .ok (.iconst 1, 1) := by decide +kernel
theorem dX0_anyHolds_89 : decode cX0_anyHolds 89 = .ok (.ireturn, 1) := by decide +kernel
theorem dX0_clauseHolds_0 : decode cX0_clauseHolds 0 = .ok (.aload_n 0, 1) := by decide +kernel
theorem dX0_clauseHolds_1 : decode cX0_clauseHolds 1 = .ok (.getfield 42, 3) := by decide +kernel
theorem dX0_clauseHolds_4 : decode cX0_clauseHolds 4 = .ok (.getfield 287, 3) := by decide +kernel
theorem dX0_clauseHolds_7 : decode cX0_clauseHolds 7 = .ok (.iload_n 1, 1) := by decide +kernel
theorem dX0_clauseHolds_8 : decode cX0_clauseHolds 8 = .ok (.aaload, 1) := by decide +kernel
theorem dX0_clauseHolds_9 : decode cX0_clauseHolds 9 = .ok (.astore 5, 2) := by decide +kernel
theorem dX0_clauseHolds_11 : decode cX0_clauseHolds 11 = .ok (.aload 5, 2) := by decide +kernel
theorem dX0_clauseHolds_13 : decode cX0_clauseHolds 13 = .ok (.ifnull 15, 3) := by decide +kernel
theorem dX0_clauseHolds_28 : decode cX0_clauseHolds 28 = .ok (.iconst 0, 1) := by decide +kernel
theorem dX0_clauseHolds_29 : decode cX0_clauseHolds 29 = .ok (.ireturn, 1) := by decide +kernel
theorem dX0_clauseHolds_16 : decode cX0_clauseHolds 16 = .ok (.aload_n 0, 1) := by decide +kernel
theorem dX0_clauseHolds_17 : decode cX0_clauseHolds 17 = .ok (.getfield 42, 3) := by decide +kernel
theorem dX0_clauseHolds_20 : decode cX0_clauseHolds 20 = .ok (.iload_n 1, 1) := by decide +kernel
theorem dX0_clauseHolds_21 : decode cX0_clauseHolds 21 = .ok (.iload_n 2, 1) := by decide +kernel
theorem dX0_clauseHolds_22 : decode cX0_clauseHolds 22 = .ok (.invokevirtual 299, 3) := by decide +kernel
theorem dX0_clauseHolds_25 : decode cX0_clauseHolds 25 = .ok (.ifCond .ne 5, 3) := by decide +kernel
theorem dX0_clauseHolds_30 : decode cX0_clauseHolds 30 = .ok (.aload 5, 2) := by decide +kernel
theorem dX0_clauseHolds_32 : decode cX0_clauseHolds 32 = .ok (.getfield 296, 3) := by decide +kernel
theorem dX0_clauseHolds_35 : decode cX0_clauseHolds 35 = .ok (.iload_n 2, 1) := by decide +kernel
theorem dX0_clauseHolds_36 : decode cX0_clauseHolds 36 = .ok (.iaload, 1) := by decide +kernel
theorem dX0_clauseHolds_37 : decode cX0_clauseHolds 37 = .ok (.istore 6, 2) := by decide +kernel
theorem dX0_clauseHolds_39 : decode cX0_clauseHolds 39 = .ok (.iload 6, 2) := by decide +kernel
theorem dX0_clauseHolds_41 : decode cX0_clauseHolds 41 = .ok (.sipush 256, 3) := by decide +kernel
theorem dX0_clauseHolds_44 : decode cX0_clauseHolds 44 = .ok (.if_icmp .eq 32, 3) := by decide +kernel
theorem dX0_clauseHolds_77 : decode cX0_clauseHolds 77 = .ok (.ireturn, 1) := by decide +kernel
theorem dX0_clauseHolds_76 : decode cX0_clauseHolds 76 = .ok (.iconst 0, 1) := by decide +kernel
theorem dX0_clauseHolds_47 : decode cX0_clauseHolds 47 = .ok (.iload 6, 2) := by decide +kernel
theorem dX0_clauseHolds_49 : decode cX0_clauseHolds 49 = .ok (.sipush 258, 3) := by decide +kernel
theorem dX0_clauseHolds_52 : decode cX0_clauseHolds 52 = .ok (.if_icmp .eq 24, 3) := by decide +kernel
theorem dX0_clauseHolds_55 : decode cX0_clauseHolds 55 = .ok (.aload_n 0, 1) := by decide +kernel
theorem dX0_clauseHolds_56 : decode cX0_clauseHolds 56 = .ok (.aload 5, 2) := by decide +kernel
theorem dX0_clauseHolds_58 : decode cX0_clauseHolds 58 = .ok (.iload_n 2, 1) := by decide +kernel
theorem dX0_clauseHolds_59 : decode cX0_clauseHolds 59 = .ok (.iload_n 3, 1) := by decide +kernel
theorem dX0_clauseHolds_60 : decode cX0_clauseHolds 60 = .ok (.iload 4, 2) := by decide +kernel
theorem dX0_clauseHolds_62 : decode cX0_clauseHolds 62 = .ok (.invokevirtual 302, 3) := by decide +kernel
theorem dX0_clauseHolds_65 : decode cX0_clauseHolds 65 = .ok (.ldc2_w 306, 3) := by decide +kernel
theorem dX0_clauseHolds_68 : decode cX0_clauseHolds 68 = .ok (.lcmp, 1) := by decide +kernel
theorem dX0_clauseHolds_69 : decode cX0_clauseHolds 69 = .ok (.ifCond .eq 7, 3) := by decide +kernel
theorem dX0_clauseHolds_72 : decode cX0_clauseHolds 72 = .ok (.iconst 1, 1) := by decide +kernel
theorem dX0_clauseHolds_73 : decode cX0_clauseHolds 73 = .ok (.goto 4, 3) := by decide +kernel
theorem dX0_collectRents_0 : decode cX0_collectRents 0 = .ok (.iconst 0, 1) := by decide +kernel
theorem dX0_collectRents_1 : decode cX0_collectRents 1 = .ok (.istore_n 1, 1) := by decide +kernel
theorem dX0_collectRents_2 : decode cX0_collectRents 2 = .ok (.iload_n 1, 1) := by decide +kernel
theorem dX0_collectRents_3 : decode cX0_collectRents 3 = .ok (.aload_n 0, 1) := by decide +kernel
theorem dX0_collectRents_4 : decode cX0_collectRents 4 = .ok (.getfield 21, 3) := by decide +kernel
theorem dX0_collectRents_7 : decode cX0_collectRents 7 = .ok (.getfield 171, 3) := by decide +kernel
theorem dX0_collectRents_10 : decode cX0_collectRents 10 = .ok (.if_icmp .ge 171, 3) := by decide +kernel
theorem dX0_collectRents_181 : decode cX0_collectRents 181 = .ok (.return_, 1) := by decide +kernel
theorem dX0_collectRents_13 : decode cX0_collectRents 13 = .ok (.aload_n 0, 1) := by decide +kernel
theorem dX0_collectRents_14 : decode cX0_collectRents 14 = .ok (.getfield 21, 3) := by decide +kernel
theorem dX0_collectRents_17 : decode cX0_collectRents 17 = .ok (.getfield 124, 3) := by decide +kernel
theorem dX0_collectRents_20 : decode cX0_collectRents 20 = .ok (.iload_n 1, 1) := by decide +kernel
theorem dX0_collectRents_21 : decode cX0_collectRents 21 = .ok (.iaload, 1) := by decide +kernel
theorem dX0_collectRents_22 : decode cX0_collectRents 22 = .ok (.istore_n 2, 1) := by decide +kernel
theorem dX0_collectRents_23 : decode cX0_collectRents 23 = .ok (.iload_n 2, 1) := by decide +kernel
theorem dX0_collectRents_24 : decode cX0_collectRents 24 = .ok (.iconst (-1), 1) := by decide +kernel
theorem dX0_collectRents_25 : decode cX0_collectRents 25 = .ok (.if_icmp .eq 150, 3) := by decide +kernel
theorem dX0_collectRents_175 : decode cX0_collectRents 175 = .ok (.iinc 1 1, 3) := by decide +kernel
theorem dX0_collectRents_178 : decode cX0_collectRents 178 = .ok (.goto (-176), 3) := by decide +kernel
theorem dX0_collectRents_28 : decode cX0_collectRents 28 = .ok (.aload_n 0, 1) := by decide +kernel
theorem dX0_collectRents_29 : decode cX0_collectRents 29 = .ok (.getfield 12, 3) := by decide +kernel
theorem dX0_collectRents_32 : decode cX0_collectRents 32 = .ok (.getfield 182, 3) := by decide +kernel
theorem dX0_collectRents_35 : decode cX0_collectRents 35 = .ok (.iload_n 2, 1) := by decide +kernel
theorem dX0_collectRents_36 : decode cX0_collectRents 36 = .ok (.iaload, 1) := by decide +kernel
theorem dX0_collectRents_37 : decode cX0_collectRents 37 = .ok (.ifCond .ne 138, 3) := by decide +kernel
theorem dX0_collectRents_40 : decode cX0_collectRents 40 = .ok (.aload_n 0, 1) := by decide +kernel
theorem dX0_collectRents_41 : decode cX0_collectRents 41 = .ok (.getfield 21, 3) := by decide +kernel
theorem dX0_collectRents_44 : decode cX0_collectRents 44 = .ok (.iload_n 1, 1) := by decide +kernel
theorem dX0_collectRents_45 : decode cX0_collectRents 45 = .ok (.invokevirtual 185, 3) := by decide +kernel
theorem dX0_collectRents_48 : decode cX0_collectRents 48 = .ok (.aload_n 0, 1) := by decide +kernel
theorem dX0_collectRents_49 : decode cX0_collectRents 49 = .ok (.getfield 21, 3) := by decide +kernel
theorem dX0_collectRents_52 : decode cX0_collectRents 52 = .ok (.getfield 188, 3) := by decide +kernel
theorem dX0_collectRents_55 : decode cX0_collectRents 55 = .ok (.iload_n 1, 1) := by decide +kernel
theorem dX0_collectRents_56 : decode cX0_collectRents 56 = .ok (.iaload, 1) := by decide +kernel
theorem dX0_collectRents_57 : decode cX0_collectRents 57 = .ok (.iadd, 1) := by decide +kernel
theorem dX0_collectRents_58 : decode cX0_collectRents 58 = .ok (.istore_n 3, 1) := by decide +kernel
theorem dX0_collectRents_59 : decode cX0_collectRents 59 = .ok (.aload_n 0, 1) := by decide +kernel
theorem dX0_collectRents_60 : decode cX0_collectRents 60 = .ok (.getfield 53, 3) := by decide +kernel
theorem dX0_collectRents_63 : decode cX0_collectRents 63 = .ok (.iload_n 1, 1) := by decide +kernel
theorem dX0_collectRents_64 : decode cX0_collectRents 64 = .ok (.iaload, 1) := by decide +kernel
theorem dX0_collectRents_65 : decode cX0_collectRents 65 = .ok (.iconst (-1), 1) := by decide +kernel
theorem dX0_collectRents_66 : decode cX0_collectRents 66 = .ok (.if_icmp .ne 15, 3) := by decide +kernel
theorem dX0_collectRents_96 : decode cX0_collectRents 96 = .ok (.istore 4, 2) := by decide +kernel
theorem dX0_collectRents_98 : decode cX0_collectRents 98 = .ok (.iload 4, 2) := by decide +kernel
theorem dX0_collectRents_100 : decode cX0_collectRents 100 = .ok (.ifCond .eq 11, 3) := by decide +kernel
theorem dX0_collectRents_112 : decode cX0_collectRents 112 = .ok (.istore 5, 2) := by decide +kernel
theorem dX0_collectRents_114 : decode cX0_collectRents 114 = .ok (.aload_n 0, 1) := by decide +kernel
theorem dX0_collectRents_115 : decode cX0_collectRents 115 = .ok (.iload_n 2, 1) := by decide +kernel
theorem dX0_collectRents_116 : decode cX0_collectRents 116 = .ok (.iload 5, 2) := by decide +kernel
theorem dX0_collectRents_118 : decode cX0_collectRents 118 = .ok (.invokevirtual 198, 3) := by decide +kernel
theorem dX0_pay_0 : decode cX0_pay 0 = .ok (.iload_n 2, 1) := by decide +kernel
theorem dX0_pay_1 : decode cX0_pay 1 = .ok (.aload_n 0, 1) := by decide +kernel
theorem dX0_pay_2 : decode cX0_pay 2 = .ok (.getfield 12, 3) := by decide +kernel
theorem dX0_pay_5 : decode cX0_pay 5 = .ok (.getfield 213, 3) := by decide +kernel
theorem dX0_pay_8 : decode cX0_pay 8 = .ok (.iload_n 1, 1) := by decide +kernel
theorem dX0_pay_9 : decode cX0_pay 9 = .ok (.iaload, 1) := by decide +kernel
theorem dX0_pay_10 : decode cX0_pay 10 = .ok (.isub, 1) := by decide +kernel
theorem dX0_pay_11 : decode cX0_pay 11 = .ok (.istore_n 3, 1) := by decide +kernel
theorem dX0_pay_12 : decode cX0_pay 12 = .ok (.iload_n 3, 1) := by decide +kernel
theorem dX0_pay_13 : decode cX0_pay 13 = .ok (.ifCond .le 70, 3) := by decide +kernel
theorem dX0_pay_83 : decode cX0_pay 83 = .ok (.iload_n 2, 1) := by decide +kernel
theorem dX0_pay_84 : decode cX0_pay 84 = .ok (.aload_n 0, 1) := by decide +kernel
theorem dX0_pay_85 : decode cX0_pay 85 = .ok (.getfield 12, 3) := by decide +kernel
theorem dX0_pay_88 : decode cX0_pay 88 = .ok (.getfield 213, 3) := by decide +kernel
theorem dX0_pay_91 : decode cX0_pay 91 = .ok (.iload_n 1, 1) := by decide +kernel
theorem dX0_pay_92 : decode cX0_pay 92 = .ok (.iaload, 1) := by decide +kernel
theorem dX0_pay_93 : decode cX0_pay 93 = .ok (.invokestatic 208, 3) := by decide +kernel
theorem dX0_pay_96 : decode cX0_pay 96 = .ok (.istore 4, 2) := by decide +kernel
theorem dX0_pay_98 : decode cX0_pay 98 = .ok (.aload_n 0, 1) := by decide +kernel
theorem dX0_pay_99 : decode cX0_pay 99 = .ok (.getfield 12, 3) := by decide +kernel
theorem dX0_pay_102 : decode cX0_pay 102 = .ok (.getfield 213, 3) := by decide +kernel
theorem dX0_pay_105 : decode cX0_pay 105 = .ok (.iload_n 1, 1) := by decide +kernel
theorem dX0_pay_106 : decode cX0_pay 106 = .ok (.dup2, 1) := by decide +kernel
theorem dX0_pay_107 : decode cX0_pay 107 = .ok (.iaload, 1) := by decide +kernel
theorem dX0_pay_108 : decode cX0_pay 108 = .ok (.iload 4, 2) := by decide +kernel
theorem dX0_pay_110 : decode cX0_pay 110 = .ok (.isub, 1) := by decide +kernel
theorem dX0_pay_111 : decode cX0_pay 111 = .ok (.iastore, 1) := by decide +kernel
theorem dX0_pay_112 : decode cX0_pay 112 = .ok (.iload 4, 2) := by decide +kernel
theorem dX0_pay_114 : decode cX0_pay 114 = .ok (.ireturn, 1) := by decide +kernel
theorem dX0_pay_16 : decode cX0_pay 16 = .ok (.aload_n 0, 1) := by decide +kernel
theorem dX0_pay_17 : decode cX0_pay 17 = .ok (.getfield 121, 3) := by decide +kernel
theorem dX0_pay_20 : decode cX0_pay 20 = .ok (.ifCond .le 63, 3) := by decide +kernel
theorem dX0_pay_23 : decode cX0_pay 23 = .ok (.iload_n 3, 1) := by decide +kernel
theorem dX0_pay_24 : decode cX0_pay 24 = .ok (.aload_n 0, 1) := by decide +kernel
theorem dX0_pay_25 : decode cX0_pay 25 = .ok (.getfield 121, 3) := by decide +kernel
theorem dX0_pay_28 : decode cX0_pay 28 = .ok (.iadd, 1) := by decide +kernel
theorem dX0_pay_29 : decode cX0_pay 29 = .ok (.iconst 1, 1) := by decide +kernel
theorem dX0_pay_30 : decode cX0_pay 30 = .ok (.isub, 1) := by decide +kernel
theorem dX0_pay_31 : decode cX0_pay 31 = .ok (.aload_n 0, 1) := by decide +kernel
theorem dX0_pay_32 : decode cX0_pay 32 = .ok (.getfield 121, 3) := by decide +kernel
theorem dX0_pay_35 : decode cX0_pay 35 = .ok (.idiv, 1) := by decide +kernel
theorem dX0_pay_36 : decode cX0_pay 36 = .ok (.aload_n 0, 1) := by decide +kernel
theorem dX0_pay_37 : decode cX0_pay 37 = .ok (.getfield 12, 3) := by decide +kernel
theorem dX0_pay_40 : decode cX0_pay 40 = .ok (.getfield 179, 3) := by decide +kernel
theorem dX0_pay_43 : decode cX0_pay 43 = .ok (.iload_n 1, 1) := by decide +kernel
theorem dX0_pay_44 : decode cX0_pay 44 = .ok (.iaload, 1) := by decide +kernel
theorem dX0_pay_45 : decode cX0_pay 45 = .ok (.invokestatic 208, 3) := by decide +kernel
theorem dX0_pay_48 : decode cX0_pay 48 = .ok (.istore 4, 2) := by decide +kernel
theorem dX0_pay_50 : decode cX0_pay 50 = .ok (.aload_n 0, 1) := by decide +kernel
theorem dX0_pay_51 : decode cX0_pay 51 = .ok (.getfield 12, 3) := by decide +kernel
theorem dX0_pay_54 : decode cX0_pay 54 = .ok (.getfield 179, 3) := by decide +kernel
theorem dX0_pay_57 : decode cX0_pay 57 = .ok (.iload_n 1, 1) := by decide +kernel
theorem dX0_pay_58 : decode cX0_pay 58 = .ok (.dup2, 1) := by decide +kernel
theorem dX0_pay_59 : decode cX0_pay 59 = .ok (.iaload, 1) := by decide +kernel
theorem dX0_pay_60 : decode cX0_pay 60 = .ok (.iload 4, 2) := by decide +kernel
theorem dX0_pay_62 : decode cX0_pay 62 = .ok (.isub, 1) := by decide +kernel
theorem dX0_pay_63 : decode cX0_pay 63 = .ok (.iastore, 1) := by decide +kernel
theorem dX0_pay_64 : decode cX0_pay 64 = .ok (.aload_n 0, 1) := by decide +kernel
theorem dX0_pay_65 : decode cX0_pay 65 = .ok (.getfield 12, 3) := by decide +kernel
theorem dX0_pay_68 : decode cX0_pay 68 = .ok (.getfield 213, 3) := by decide +kernel
theorem dX0_pay_71 : decode cX0_pay 71 = .ok (.iload_n 1, 1) := by decide +kernel
theorem dX0_pay_72 : decode cX0_pay 72 = .ok (.dup2, 1) := by decide +kernel
theorem dX0_pay_73 : decode cX0_pay 73 = .ok (.iaload, 1) := by decide +kernel
theorem dX0_pay_74 : decode cX0_pay 74 = .ok (.iload 4, 2) := by decide +kernel
theorem dX0_pay_76 : decode cX0_pay 76 = .ok (.aload_n 0, 1) := by decide +kernel
theorem dX0_pay_77 : decode cX0_pay 77 = .ok (.getfield 121, 3) := by decide +kernel
theorem dX0_pay_80 : decode cX0_pay 80 = .ok (.imul, 1) := by decide +kernel
theorem dX0_pay_81 : decode cX0_pay 81 = .ok (.iadd, 1) := by decide +kernel
theorem dX0_pay_82 : decode cX0_pay 82 = .ok (.iastore, 1) := by decide +kernel
theorem dX0_collectRents_121 : decode cX0_collectRents 121 = .ok (.istore 6, 2) := by decide +kernel
theorem dX0_collectRents_123 : decode cX0_collectRents 123 = .ok (.aload_n 0, 1) := by decide +kernel
theorem dX0_collectRents_124 : decode cX0_collectRents 124 = .ok (.getfield 21, 3) := by decide +kernel
theorem dX0_collectRents_127 : decode cX0_collectRents 127 = .ok (.getfield 201, 3) := by decide +kernel
theorem dX0_collectRents_130 : decode cX0_collectRents 130 = .ok (.aload_n 0, 1) := by decide +kernel
theorem dX0_collectRents_131 : decode cX0_collectRents 131 = .ok (.getfield 21, 3) := by decide +kernel
theorem dX0_collectRents_134 : decode cX0_collectRents 134 = .ok (.getfield 204, 3) := by decide +kernel
theorem dX0_collectRents_137 : decode cX0_collectRents 137 = .ok (.iload_n 1, 1) := by decide +kernel
theorem dX0_collectRents_138 : decode cX0_collectRents 138 = .ok (.iaload, 1) := by decide +kernel
theorem dX0_collectRents_139 : decode cX0_collectRents 139 = .ok (.dup2, 1) := by decide +kernel
theorem dX0_collectRents_140 : decode cX0_collectRents 140 = .ok (.iaload, 1) := by decide +kernel
theorem dX0_collectRents_141 : decode cX0_collectRents 141 = .ok (.iload 6, 2) := by decide +kernel
theorem dX0_collectRents_143 : decode cX0_collectRents 143 = .ok (.iadd, 1) := by decide +kernel
theorem dX0_collectRents_144 : decode cX0_collectRents 144 = .ok (.iastore, 1) := by decide +kernel
theorem dX0_collectRents_145 : decode cX0_collectRents 145 = .ok (.aload_n 0, 1) := by decide +kernel
theorem dX0_collectRents_146 : decode cX0_collectRents 146 = .ok (.dup, 1) := by decide +kernel
theorem dX0_collectRents_147 : decode cX0_collectRents 147 = .ok (.getfield 103, 3) := by decide +kernel
theorem dX0_collectRents_150 : decode cX0_collectRents 150 = .ok (.iload 6, 2) := by decide +kernel
theorem dX0_collectRents_152 : decode cX0_collectRents 152 = .ok (.i2l, 1) := by decide +kernel
theorem dX0_collectRents_153 : decode cX0_collectRents 153 = .ok (.ladd, 1) := by decide +kernel
theorem dX0_collectRents_154 : decode cX0_collectRents 154 = .ok (.putfield 103, 3) := by decide +kernel
theorem dX0_collectRents_157 : decode cX0_collectRents 157 = .ok (.aload_n 0, 1) := by decide +kernel
theorem dX0_collectRents_158 : decode cX0_collectRents 158 = .ok (.getfield 21, 3) := by decide +kernel
theorem dX0_collectRents_161 : decode cX0_collectRents 161 = .ok (.getfield 188, 3) := by decide +kernel
theorem dX0_collectRents_164 : decode cX0_collectRents 164 = .ok (.iload_n 1, 1) := by decide +kernel
theorem dX0_collectRents_165 : decode cX0_collectRents 165 = .ok (.iload_n 3, 1) := by decide +kernel
theorem dX0_collectRents_166 : decode cX0_collectRents 166 = .ok (.iload 6, 2) := by decide +kernel
theorem dX0_collectRents_168 : decode cX0_collectRents 168 = .ok (.isub, 1) := by decide +kernel
theorem dX0_collectRents_169 : decode cX0_collectRents 169 = .ok (.ldc 207, 2) := by decide +kernel
theorem dX0_collectRents_171 : decode cX0_collectRents 171 = .ok (.invokestatic 208, 3) := by decide +kernel
theorem dX0_collectRents_174 : decode cX0_collectRents 174 = .ok (.iastore, 1) := by decide +kernel
theorem dX0_collectRents_111 : decode cX0_collectRents 111 = .ok (.iload_n 3, 1) := by decide +kernel
theorem dX0_collectRents_103 : decode cX0_collectRents 103 = .ok (.aload_n 0, 1) := by decide +kernel
theorem dX0_collectRents_104 : decode cX0_collectRents 104 = .ok (.iload_n 1, 1) := by decide +kernel
theorem dX0_collectRents_105 : decode cX0_collectRents 105 = .ok (.invokevirtual 195, 3) := by decide +kernel
theorem dX0_fairOf_0 : decode cX0_fairOf 0 = .ok (.aload_n 0, 1) := by decide +kernel
theorem dX0_fairOf_1 : decode cX0_fairOf 1 = .ok (.getfield 21, 3) := by decide +kernel
theorem dX0_fairOf_4 : decode cX0_fairOf 4 = .ok (.iload_n 1, 1) := by decide +kernel
theorem dX0_fairOf_5 : decode cX0_fairOf 5 = .ok (.invokevirtual 185, 3) := by decide +kernel
theorem dX0_fairOf_8 : decode cX0_fairOf 8 = .ok (.istore_n 2, 1) := by decide +kernel
theorem dX0_fairOf_9 : decode cX0_fairOf 9 = .ok (.aload_n 0, 1) := by decide +kernel
theorem dX0_fairOf_10 : decode cX0_fairOf 10 = .ok (.getfield 42, 3) := by decide +kernel
theorem dX0_fairOf_13 : decode cX0_fairOf 13 = .ok (.getfield 286, 3) := by decide +kernel
theorem dX0_fairOf_16 : decode cX0_fairOf 16 = .ok (.iconst 1, 1) := by decide +kernel
theorem dX0_fairOf_17 : decode cX0_fairOf 17 = .ok (.isub, 1) := by decide +kernel
theorem dX0_fairOf_18 : decode cX0_fairOf 18 = .ok (.istore_n 3, 1) := by decide +kernel
theorem dX0_fairOf_19 : decode cX0_fairOf 19 = .ok (.iload_n 3, 1) := by decide +kernel
theorem dX0_fairOf_20 : decode cX0_fairOf 20 = .ok (.ifCond .lt 121, 3) := by decide +kernel
theorem dX0_fairOf_141 : decode cX0_fairOf 141 = .ok (.iload_n 2, 1) := by decide +kernel
theorem dX0_fairOf_142 : decode cX0_fairOf 142 = .ok (.ireturn, 1) := by decide +kernel
theorem dX0_fairOf_23 : decode cX0_fairOf 23 = .ok (.aload_n 0, 1) := by decide +kernel
theorem dX0_fairOf_24 : decode cX0_fairOf 24 = .ok (.getfield 42, 3) := by decide +kernel
theorem dX0_fairOf_27 : decode cX0_fairOf 27 = .ok (.getfield 287, 3) := by decide +kernel
theorem dX0_fairOf_30 : decode cX0_fairOf 30 = .ok (.iload_n 3, 1) := by decide +kernel
theorem dX0_fairOf_31 : decode cX0_fairOf 31 = .ok (.aaload, 1) := by decide +kernel
theorem dX0_fairOf_32 : decode cX0_fairOf 32 = .ok (.astore 4, 2) := by decide +kernel
theorem dX0_fairOf_34 : decode cX0_fairOf 34 = .ok (.aload 4, 2) := by decide +kernel
theorem dX0_fairOf_36 : decode cX0_fairOf 36 = .ok (.ifnonnull 7, 3) := by decide +kernel
theorem dX0_fairOf_39 : decode cX0_fairOf 39 = .ok (.iconst (-1), 1) := by decide +kernel
theorem dX0_fairOf_40 : decode cX0_fairOf 40 = .ok (.goto 10, 3) := by decide +kernel
theorem dX0_fairOf_50 : decode cX0_fairOf 50 = .ok (.istore 5, 2) := by decide +kernel
theorem dX0_fairOf_52 : decode cX0_fairOf 52 = .ok (.iload 5, 2) := by decide +kernel
theorem dX0_fairOf_54 : decode cX0_fairOf 54 = .ok (.ifCond .lt 81, 3) := by decide +kernel
theorem dX0_fairOf_135 : decode cX0_fairOf 135 = .ok (.iinc 3 (-1), 3) := by decide +kernel
theorem dX0_fairOf_138 : decode cX0_fairOf 138 = .ok (.goto (-119), 3) := by decide +kernel
theorem dX0_fairOf_43 : decode cX0_fairOf 43 = .ok (.aload 4, 2) := by decide +kernel
theorem dX0_fairOf_45 : decode cX0_fairOf 45 = .ok (.getfield 291, 3) := by decide +kernel
theorem dX0_fairOf_48 : decode cX0_fairOf 48 = .ok (.iconst 1, 1) := by decide +kernel
theorem dX0_fairOf_49 : decode cX0_fairOf 49 = .ok (.isub, 1) := by decide +kernel
theorem dX0_fairOf_57 : decode cX0_fairOf 57 = .ok (.aload 4, 2) := by decide +kernel
theorem dX0_fairOf_59 : decode cX0_fairOf 59 = .ok (.getfield 296, 3) := by decide +kernel
theorem dX0_fairOf_62 : decode cX0_fairOf 62 = .ok (.iload 5, 2) := by decide +kernel
theorem dX0_fairOf_64 : decode cX0_fairOf 64 = .ok (.iaload, 1) := by decide +kernel
theorem dX0_fairOf_65 : decode cX0_fairOf 65 = .ok (.sipush 260, 3) := by decide +kernel
theorem dX0_fairOf_68 : decode cX0_fairOf 68 = .ok (.if_icmp .ne 61, 3) := by decide +kernel
theorem dX0_fairOf_129 : decode cX0_fairOf 129 = .ok (.iinc 5 (-1), 3) := by decide +kernel
theorem dX0_fairOf_132 : decode cX0_fairOf 132 = .ok (.goto (-80), 3) := by decide +kernel
theorem dX0_fairOf_71 : decode cX0_fairOf 71 = .ok (.aload_n 0, 1) := by decide +kernel
theorem dX0_fairOf_72 : decode cX0_fairOf 72 = .ok (.getfield 42, 3) := by decide +kernel
theorem dX0_fairOf_75 : decode cX0_fairOf 75 = .ok (.iload_n 3, 1) := by decide +kernel
theorem dX0_fairOf_76 : decode cX0_fairOf 76 = .ok (.iload 5, 2) := by decide +kernel
theorem dX0_fairOf_78 : decode cX0_fairOf 78 = .ok (.invokevirtual 299, 3) := by decide +kernel
theorem dX0_fairOf_81 : decode cX0_fairOf 81 = .ok (.ifCond .ne 6, 3) := by decide +kernel
theorem dX0_fairOf_87 : decode cX0_fairOf 87 = .ok (.aload_n 0, 1) := by decide +kernel
theorem dX0_fairOf_88 : decode cX0_fairOf 88 = .ok (.aload 4, 2) := by decide +kernel
theorem dX0_fairOf_90 : decode cX0_fairOf 90 = .ok (.iload 5, 2) := by decide +kernel
theorem dX0_fairOf_92 : decode cX0_fairOf 92 = .ok (.aload_n 0, 1) := by decide +kernel
theorem dX0_fairOf_93 : decode cX0_fairOf 93 = .ok (.getfield 21, 3) := by decide +kernel
theorem dX0_fairOf_96 : decode cX0_fairOf 96 = .ok (.getfield 124, 3) := by decide +kernel
theorem dX0_fairOf_99 : decode cX0_fairOf 99 = .ok (.iload_n 1, 1) := by decide +kernel
theorem dX0_fairOf_100 : decode cX0_fairOf 100 = .ok (.iaload, 1) := by decide +kernel
theorem dX0_fairOf_101 : decode cX0_fairOf 101 = .ok (.iload_n 1, 1) := by decide +kernel
theorem dX0_fairOf_102 : decode cX0_fairOf 102 = .ok (.invokevirtual 302, 3) := by decide +kernel
theorem dX0_fairOf_105 : decode cX0_fairOf 105 = .ok (.lstore 6, 2) := by decide +kernel
theorem dX0_fairOf_107 : decode cX0_fairOf 107 = .ok (.lload 6, 2) := by decide +kernel
theorem dX0_fairOf_109 : decode cX0_fairOf 109 = .ok (.ldc2_w 306, 3) := by decide +kernel
theorem dX0_fairOf_112 : decode cX0_fairOf 112 = .ok (.lcmp, 1) := by decide +kernel
theorem dX0_fairOf_113 : decode cX0_fairOf 113 = .ok (.ifCond .eq 16, 3) := by decide +kernel
theorem dX0_fairOf_116 : decode cX0_fairOf 116 = .ok (.lconst 0, 1) := by decide +kernel
theorem dX0_fairOf_117 : decode cX0_fairOf 117 = .ok (.lload 6, 2) := by decide +kernel
theorem dX0_fairOf_119 : decode cX0_fairOf 119 = .ok (.iload_n 2, 1) := by decide +kernel
theorem dX0_fairOf_120 : decode cX0_fairOf 120 = .ok (.i2l, 1) := by decide +kernel
theorem dX0_fairOf_121 : decode cX0_fairOf 121 = .ok (.invokestatic 308, 3) := by decide +kernel
theorem dX0_fairOf_124 : decode cX0_fairOf 124 = .ok (.invokestatic 311, 3) := by decide +kernel
theorem dX0_fairOf_127 : decode cX0_fairOf 127 = .ok (.l2i, 1) := by decide +kernel
theorem dX0_fairOf_128 : decode cX0_fairOf 128 = .ok (.ireturn, 1) := by decide +kernel
theorem dX0_fairOf_84 : decode cX0_fairOf 84 = .ok (.goto 45, 3) := by decide +kernel
theorem dX0_collectRents_108 : decode cX0_collectRents 108 = .ok (.goto 4, 3) := by decide +kernel
theorem dX0_collectRents_81 : decode cX0_collectRents 81 = .ok (.aload_n 0, 1) := by decide +kernel
theorem dX0_collectRents_82 : decode cX0_collectRents 82 = .ok (.getfield 53, 3) := by decide +kernel
theorem dX0_collectRents_85 : decode cX0_collectRents 85 = .ok (.iload_n 1, 1) := by decide +kernel
theorem dX0_collectRents_86 : decode cX0_collectRents 86 = .ok (.iaload, 1) := by decide +kernel
theorem dX0_collectRents_87 : decode cX0_collectRents 87 = .ok (.iconst 1, 1) := by decide +kernel
theorem dX0_collectRents_88 : decode cX0_collectRents 88 = .ok (.if_icmp .ne 7, 3) := by decide +kernel
theorem dX0_collectRents_95 : decode cX0_collectRents 95 = .ok (.iconst 0, 1) := by decide +kernel
theorem dX0_collectRents_91 : decode cX0_collectRents 91 = .ok (.iconst 1, 1) := by decide +kernel
theorem dX0_collectRents_92 : decode cX0_collectRents 92 = .ok (.goto 4, 3) := by decide +kernel
theorem dX0_collectRents_69 : decode cX0_collectRents 69 = .ok (.aload_n 0, 1) := by decide +kernel
theorem dX0_collectRents_70 : decode cX0_collectRents 70 = .ok (.sipush 262, 3) := by decide +kernel
theorem dX0_collectRents_73 : decode cX0_collectRents 73 = .ok (.iload_n 2, 1) := by decide +kernel
theorem dX0_collectRents_74 : decode cX0_collectRents 74 = .ok (.iload_n 1, 1) := by decide +kernel
theorem dX0_collectRents_75 : decode cX0_collectRents 75 = .ok (.invokevirtual 191, 3) := by decide +kernel
theorem dX0_collectRents_78 : decode cX0_collectRents 78 = .ok (.goto 18, 3) := by decide +kernel
theorem dX0_copyFrom_0 : decode cX0_copyFrom 0 = .ok (.aload_n 0, 1) := by decide +kernel
theorem dX0_copyFrom_1 : decode cX0_copyFrom 1 = .ok (.getfield 12, 3) := by decide +kernel
theorem dX0_copyFrom_4 : decode cX0_copyFrom 4 = .ok (.aload_n 1, 1) := by decide +kernel
theorem dX0_copyFrom_5 : decode cX0_copyFrom 5 = .ok (.getfield 12, 3) := by decide +kernel
theorem dX0_copyFrom_8 : decode cX0_copyFrom 8 = .ok (.invokevirtual 74, 3) := by decide +kernel
theorem dX0_copyFrom_11 : decode cX0_copyFrom 11 = .ok (.aload_n 0, 1) := by decide +kernel
theorem dX0_copyFrom_12 : decode cX0_copyFrom 12 = .ok (.getfield 21, 3) := by decide +kernel
theorem dX0_copyFrom_15 : decode cX0_copyFrom 15 = .ok (.aload_n 1, 1) := by decide +kernel
theorem dX0_copyFrom_16 : decode cX0_copyFrom 16 = .ok (.getfield 21, 3) := by decide +kernel
theorem dX0_copyFrom_19 : decode cX0_copyFrom 19 = .ok (.invokevirtual 78, 3) := by decide +kernel
theorem dX0_copyFrom_22 : decode cX0_copyFrom 22 = .ok (.aload_n 0, 1) := by decide +kernel
theorem dX0_copyFrom_23 : decode cX0_copyFrom 23 = .ok (.getfield 28, 3) := by decide +kernel
theorem dX0_copyFrom_26 : decode cX0_copyFrom 26 = .ok (.aload_n 1, 1) := by decide +kernel
theorem dX0_copyFrom_27 : decode cX0_copyFrom 27 = .ok (.getfield 28, 3) := by decide +kernel
theorem dX0_copyFrom_30 : decode cX0_copyFrom 30 = .ok (.invokevirtual 81, 3) := by decide +kernel
theorem dX0_copyFrom_33 : decode cX0_copyFrom 33 = .ok (.aload_n 0, 1) := by decide +kernel
theorem dX0_copyFrom_34 : decode cX0_copyFrom 34 = .ok (.getfield 35, 3) := by decide +kernel
theorem dX0_copyFrom_37 : decode cX0_copyFrom 37 = .ok (.aload_n 1, 1) := by decide +kernel
theorem dX0_copyFrom_38 : decode cX0_copyFrom 38 = .ok (.getfield 35, 3) := by decide +kernel
theorem dX0_copyFrom_41 : decode cX0_copyFrom 41 = .ok (.invokevirtual 84, 3) := by decide +kernel
theorem dX0_copyFrom_44 : decode cX0_copyFrom 44 = .ok (.aload_n 0, 1) := by decide +kernel
theorem dX0_copyFrom_45 : decode cX0_copyFrom 45 = .ok (.getfield 42, 3) := by decide +kernel
theorem dX0_copyFrom_48 : decode cX0_copyFrom 48 = .ok (.aload_n 1, 1) := by decide +kernel
theorem dX0_copyFrom_49 : decode cX0_copyFrom 49 = .ok (.getfield 42, 3) := by decide +kernel
theorem dX0_copyFrom_52 : decode cX0_copyFrom 52 = .ok (.invokevirtual 87, 3) := by decide +kernel
theorem dX0_copyFrom_55 : decode cX0_copyFrom 55 = .ok (.aload_n 0, 1) := by decide +kernel
theorem dX0_copyFrom_56 : decode cX0_copyFrom 56 = .ok (.getfield 49, 3) := by decide +kernel
theorem dX0_copyFrom_59 : decode cX0_copyFrom 59 = .ok (.aload_n 1, 1) := by decide +kernel
theorem dX0_copyFrom_60 : decode cX0_copyFrom 60 = .ok (.getfield 49, 3) := by decide +kernel
theorem dX0_copyFrom_63 : decode cX0_copyFrom 63 = .ok (.invokevirtual 90, 3) := by decide +kernel
theorem dX0_copyFrom_66 : decode cX0_copyFrom 66 = .ok (.aload_n 0, 1) := by decide +kernel
theorem dX0_copyFrom_67 : decode cX0_copyFrom 67 = .ok (.aload_n 1, 1) := by decide +kernel
theorem dX0_copyFrom_68 : decode cX0_copyFrom 68 = .ok (.getfield 93, 3) := by decide +kernel
theorem dX0_copyFrom_71 : decode cX0_copyFrom 71 = .ok (.putfield 93, 3) := by decide +kernel
theorem dX0_copyFrom_74 : decode cX0_copyFrom 74 = .ok (.aload_n 0, 1) := by decide +kernel
theorem dX0_copyFrom_75 : decode cX0_copyFrom 75 = .ok (.getfield 53, 3) := by decide +kernel
theorem dX0_copyFrom_78 : decode cX0_copyFrom 78 = .ok (.iconst (-1), 1) := by decide +kernel
theorem dX0_copyFrom_79 : decode cX0_copyFrom 79 = .ok (.invokestatic 68, 3) := by decide +kernel
theorem dX0_copyFrom_82 : decode cX0_copyFrom 82 = .ok (.aload_n 0, 1) := by decide +kernel
theorem dX0_copyFrom_83 : decode cX0_copyFrom 83 = .ok (.iconst 0, 1) := by decide +kernel
theorem dX0_copyFrom_84 : decode cX0_copyFrom 84 = .ok (.putfield 97, 3) := by decide +kernel
theorem dX0_copyFrom_87 : decode cX0_copyFrom 87 = .ok (.aload_n 0, 1) := by decide +kernel
theorem dX0_copyFrom_88 : decode cX0_copyFrom 88 = .ok (.iconst 0, 1) := by decide +kernel
theorem dX0_copyFrom_89 : decode cX0_copyFrom 89 = .ok (.putfield 100, 3) := by decide +kernel
theorem dX0_copyFrom_92 : decode cX0_copyFrom 92 = .ok (.aload_n 0, 1) := by decide +kernel
theorem dX0_copyFrom_93 : decode cX0_copyFrom 93 = .ok (.lconst 0, 1) := by decide +kernel
theorem dX0_copyFrom_94 : decode cX0_copyFrom 94 = .ok (.putfield 103, 3) := by decide +kernel
theorem dX0_copyFrom_97 : decode cX0_copyFrom 97 = .ok (.return_, 1) := by decide +kernel
theorem dX0_drawOf_0 : decode cX0_drawOf 0 = .ok (.lconst 0, 1) := by decide +kernel
theorem dX0_drawOf_1 : decode cX0_drawOf 1 = .ok (.lstore_n 2, 1) := by decide +kernel
theorem dX0_drawOf_2 : decode cX0_drawOf 2 = .ok (.iconst 0, 1) := by decide +kernel
theorem dX0_drawOf_3 : decode cX0_drawOf 3 = .ok (.istore 4, 2) := by decide +kernel
theorem dX0_drawOf_5 : decode cX0_drawOf 5 = .ok (.iload 4, 2) := by decide +kernel
theorem dX0_drawOf_7 : decode cX0_drawOf 7 = .ok (.aload_n 0, 1) := by decide +kernel
theorem dX0_drawOf_8 : decode cX0_drawOf 8 = .ok (.getfield 42, 3) := by decide +kernel
theorem dX0_drawOf_11 : decode cX0_drawOf 11 = .ok (.getfield 286, 3) := by decide +kernel
theorem dX0_drawOf_14 : decode cX0_drawOf 14 = .ok (.if_icmp .ge 103, 3) := by decide +kernel
theorem dX0_drawOf_117 : decode cX0_drawOf 117 = .ok (.lload_n 2, 1) := by decide +kernel
theorem dX0_drawOf_118 : decode cX0_drawOf 118 = .ok (.lreturn, 1) := by decide +kernel
theorem dX0_drawOf_17 : decode cX0_drawOf 17 = .ok (.aload_n 0, 1) := by decide +kernel
theorem dX0_drawOf_18 : decode cX0_drawOf 18 = .ok (.getfield 42, 3) := by decide +kernel
theorem dX0_drawOf_21 : decode cX0_drawOf 21 = .ok (.getfield 287, 3) := by decide +kernel
theorem dX0_drawOf_24 : decode cX0_drawOf 24 = .ok (.iload 4, 2) := by decide +kernel
theorem dX0_drawOf_26 : decode cX0_drawOf 26 = .ok (.aaload, 1) := by decide +kernel
theorem dX0_drawOf_27 : decode cX0_drawOf 27 = .ok (.astore 5, 2) := by decide +kernel
theorem dX0_drawOf_29 : decode cX0_drawOf 29 = .ok (.iconst 0, 1) := by decide +kernel
theorem dX0_drawOf_30 : decode cX0_drawOf 30 = .ok (.istore 6, 2) := by decide +kernel
theorem dX0_drawOf_32 : decode cX0_drawOf 32 = .ok (.aload 5, 2) := by decide +kernel
theorem dX0_drawOf_34 : decode cX0_drawOf 34 = .ok (.ifnull 77, 3) := by decide +kernel
theorem dX0_drawOf_111 : decode cX0_drawOf 111 = .ok (.iinc 4 1, 3) := by decide +kernel
theorem dX0_drawOf_114 : decode cX0_drawOf 114 = .ok (.goto (-109), 3) := by decide +kernel
theorem dX0_drawOf_37 : decode cX0_drawOf 37 = .ok (.iload 6, 2) := by decide +kernel
theorem dX0_drawOf_39 : decode cX0_drawOf 39 = .ok (.aload 5, 2) := by decide +kernel
theorem dX0_drawOf_41 : decode cX0_drawOf 41 = .ok (.getfield 291, 3) := by decide +kernel
theorem dX0_drawOf_44 : decode cX0_drawOf 44 = .ok (.if_icmp .ge 67, 3) := by decide +kernel
theorem dX0_drawOf_47 : decode cX0_drawOf 47 = .ok (.aload 5, 2) := by decide +kernel
theorem dX0_drawOf_49 : decode cX0_drawOf 49 = .ok (.getfield 296, 3) := by decide +kernel
theorem dX0_drawOf_52 : decode cX0_drawOf 52 = .ok (.iload 6, 2) := by decide +kernel
theorem dX0_drawOf_54 : decode cX0_drawOf 54 = .ok (.iaload, 1) := by decide +kernel
theorem dX0_drawOf_55 : decode cX0_drawOf 55 = .ok (.sipush 261, 3) := by decide +kernel
theorem dX0_drawOf_58 : decode cX0_drawOf 58 = .ok (.if_icmp .ne 47, 3) := by decide +kernel
theorem dX0_drawOf_105 : decode cX0_drawOf 105 = .ok (.iinc 6 1, 3) := by decide +kernel
theorem dX0_drawOf_108 : decode cX0_drawOf 108 = .ok (.goto (-76), 3) := by decide +kernel
theorem dX0_drawOf_61 : decode cX0_drawOf 61 = .ok (.aload_n 0, 1) := by decide +kernel
theorem dX0_drawOf_62 : decode cX0_drawOf 62 = .ok (.getfield 42, 3) := by decide +kernel
theorem dX0_drawOf_65 : decode cX0_drawOf 65 = .ok (.iload 4, 2) := by decide +kernel
theorem dX0_drawOf_67 : decode cX0_drawOf 67 = .ok (.iload 6, 2) := by decide +kernel
theorem dX0_drawOf_69 : decode cX0_drawOf 69 = .ok (.invokevirtual 299, 3) := by decide +kernel
theorem dX0_drawOf_72 : decode cX0_drawOf 72 = .ok (.ifCond .eq 33, 3) := by decide +kernel
theorem dX0_drawOf_75 : decode cX0_drawOf 75 = .ok (.aload_n 0, 1) := by decide +kernel
theorem dX0_drawOf_76 : decode cX0_drawOf 76 = .ok (.aload 5, 2) := by decide +kernel
theorem dX0_drawOf_78 : decode cX0_drawOf 78 = .ok (.iload 6, 2) := by decide +kernel
theorem dX0_drawOf_80 : decode cX0_drawOf 80 = .ok (.iload_n 1, 1) := by decide +kernel
theorem dX0_drawOf_81 : decode cX0_drawOf 81 = .ok (.iconst (-1), 1) := by decide +kernel
theorem dX0_drawOf_82 : decode cX0_drawOf 82 = .ok (.invokevirtual 302, 3) := by decide +kernel
theorem dX0_drawOf_85 : decode cX0_drawOf 85 = .ok (.lstore 7, 2) := by decide +kernel
theorem dX0_drawOf_87 : decode cX0_drawOf 87 = .ok (.lload_n 2, 1) := by decide +kernel
theorem dX0_drawOf_88 : decode cX0_drawOf 88 = .ok (.lload 7, 2) := by decide +kernel
theorem dX0_drawOf_90 : decode cX0_drawOf 90 = .ok (.ldc2_w 306, 3) := by decide +kernel
theorem dX0_drawOf_93 : decode cX0_drawOf 93 = .ok (.lcmp, 1) := by decide +kernel
theorem dX0_drawOf_94 : decode cX0_drawOf 94 = .ok (.ifCond .ne 7, 3) := by decide +kernel
theorem dX0_drawOf_103 : decode cX0_drawOf 103 = .ok (.ladd, 1) := by decide +kernel
theorem dX0_drawOf_104 : decode cX0_drawOf 104 = .ok (.lstore_n 2, 1) := by decide +kernel
theorem dX0_drawOf_101 : decode cX0_drawOf 101 = .ok (.lload 7, 2) := by decide +kernel
theorem dX0_drawOf_97 : decode cX0_drawOf 97 = .ok (.lconst 0, 1) := by decide +kernel
theorem dX0_drawOf_98 : decode cX0_drawOf 98 = .ok (.goto 5, 3) := by decide +kernel
theorem dX0_falls_0 : decode cX0_falls 0 = .ok (.lload_n 0, 1) := by decide +kernel
theorem dX0_falls_1 : decode cX0_falls 1 = .ok (.lstore 7, 2) := by decide +kernel
theorem dX0_falls_3 : decode cX0_falls 3 = .ok (.iconst 0, 1) := by decide +kernel
theorem dX0_falls_4 : decode cX0_falls 4 = .ok (.istore 9, 2) := by decide +kernel
theorem dX0_falls_6 : decode cX0_falls 6 = .ok (.iload 9, 2) := by decide +kernel
theorem dX0_falls_8 : decode cX0_falls 8 = .ok (.iload 6, 2) := by decide +kernel
theorem dX0_falls_10 : decode cX0_falls 10 = .ok (.if_icmp .ge 27, 3) := by decide +kernel
theorem dX0_falls_37 : decode cX0_falls 37 = .ok (.iconst 0, 1) := by decide +kernel
theorem dX0_falls_38 : decode cX0_falls 38 = .ok (.ireturn, 1) := by decide +kernel
theorem dX0_falls_13 : decode cX0_falls 13 = .ok (.lload 7, 2) := by decide +kernel
theorem dX0_falls_15 : decode cX0_falls 15 = .ok (.lload_n 2, 1) := by decide +kernel
theorem dX0_falls_16 : decode cX0_falls 16 = .ok (.lload 4, 2) := by decide +kernel
theorem dX0_falls_18 : decode cX0_falls 18 = .ok (.lsub, 1) := by decide +kernel
theorem dX0_falls_19 : decode cX0_falls 19 = .ok (.ladd, 1) := by decide +kernel
theorem dX0_falls_20 : decode cX0_falls 20 = .ok (.lstore 7, 2) := by decide +kernel
theorem dX0_falls_22 : decode cX0_falls 22 = .ok (.lload 7, 2) := by decide +kernel
theorem dX0_falls_24 : decode cX0_falls 24 = .ok (.lconst 0, 1) := by decide +kernel
theorem dX0_falls_25 : decode cX0_falls 25 = .ok (.lcmp, 1) := by decide +kernel
theorem dX0_falls_26 : decode cX0_falls 26 = .ok (.ifCond .ge 5, 3) := by decide +kernel
theorem dX0_falls_31 : decode cX0_falls 31 = .ok (.iinc 9 1, 3) := by decide +kernel
theorem dX0_falls_34 : decode cX0_falls 34 = .ok (.goto (-28), 3) := by decide +kernel
theorem dX0_falls_29 : decode cX0_falls 29 = .ok (.iconst 1, 1) := by decide +kernel
theorem dX0_falls_30 : decode cX0_falls 30 = .ok (.ireturn, 1) := by decide +kernel
theorem dX0_fewestKept_0 : decode cX0_fewestKept 0 = .ok (.lconst 0, 1) := by decide +kernel
theorem dX0_fewestKept_1 : decode cX0_fewestKept 1 = .ok (.lstore_n 3, 1) := by decide +kernel
theorem dX0_fewestKept_2 : decode cX0_fewestKept 2 = .ok (.iconst 0, 1) := by decide +kernel
theorem dX0_fewestKept_3 : decode cX0_fewestKept 3 = .ok (.istore 5, 2) := by decide +kernel
theorem dX0_fewestKept_5 : decode cX0_fewestKept 5 = .ok (.iconst 0, 1) := by decide +kernel
theorem dX0_fewestKept_6 : decode cX0_fewestKept 6 = .ok (.istore 6, 2) := by decide +kernel
theorem dX0_fewestKept_8 : decode cX0_fewestKept 8 = .ok (.iload 6, 2) := by decide +kernel
theorem dX0_fewestKept_10 : decode cX0_fewestKept 10 = .ok (.aload_n 0, 1) := by decide +kernel
theorem dX0_fewestKept_11 : decode cX0_fewestKept 11 = .ok (.getfield 21, 3) := by decide +kernel
theorem dX0_fewestKept_14 : decode cX0_fewestKept 14 = .ok (.getfield 171, 3) := by decide +kernel
theorem dX0_fewestKept_17 : decode cX0_fewestKept 17 = .ok (.if_icmp .ge 76, 3) := by decide +kernel
theorem dX0_fewestKept_93 : decode cX0_fewestKept 93 = .ok (.iconst 0, 1) := by decide +kernel
theorem dX0_fewestKept_94 : decode cX0_fewestKept 94 = .ok (.istore 6, 2) := by decide +kernel
theorem dX0_fewestKept_96 : decode cX0_fewestKept 96 = .ok (.iload 6, 2) := by decide +kernel
theorem dX0_fewestKept_98 : decode cX0_fewestKept 98 = .ok (.iload 5, 2) := by decide +kernel
theorem dX0_fewestKept_100 : decode cX0_fewestKept 100 = .ok (.if_icmp .gt 50, 3) := by decide +kernel
theorem dX0_fewestKept_150 : decode cX0_fewestKept 150 = .ok (.iconst (-1), 1) := by decide +kernel
theorem dX0_fewestKept_151 : decode cX0_fewestKept 151 = .ok (.ireturn, 1) := by decide +kernel
theorem dX0_fewestKept_103 : decode cX0_fewestKept 103 = .ok (.aload_n 0, 1) := by decide +kernel
theorem dX0_fewestKept_104 : decode cX0_fewestKept 104 = .ok (.getfield 21, 3) := by decide +kernel
theorem dX0_fewestKept_107 : decode cX0_fewestKept 107 = .ok (.getfield 201, 3) := by decide +kernel
theorem dX0_fewestKept_110 : decode cX0_fewestKept 110 = .ok (.iload_n 1, 1) := by decide +kernel
theorem dX0_fewestKept_111 : decode cX0_fewestKept 111 = .ok (.iaload, 1) := by decide +kernel
theorem dX0_fewestKept_112 : decode cX0_fewestKept 112 = .ok (.i2l, 1) := by decide +kernel
theorem dX0_fewestKept_113 : decode cX0_fewestKept 113 = .ok (.lload_n 3, 1) := by decide +kernel
theorem dX0_fewestKept_114 : decode cX0_fewestKept 114 = .ok (.aload_n 0, 1) := by decide +kernel
theorem dX0_fewestKept_115 : decode cX0_fewestKept 115 = .ok (.getfield 21, 3) := by decide +kernel
theorem dX0_fewestKept_118 : decode cX0_fewestKept 118 = .ok (.getfield 222, 3) := by decide +kernel
theorem dX0_fewestKept_121 : decode cX0_fewestKept 121 = .ok (.iload_n 1, 1) := by decide +kernel
theorem dX0_fewestKept_122 : decode cX0_fewestKept 122 = .ok (.iaload, 1) := by decide +kernel
theorem dX0_fewestKept_123 : decode cX0_fewestKept 123 = .ok (.i2l, 1) := by decide +kernel
theorem dX0_fewestKept_124 : decode cX0_fewestKept 124 = .ok (.iload_n 2, 1) := by decide +kernel
theorem dX0_fewestKept_125 : decode cX0_fewestKept 125 = .ok (.invokestatic 357, 3) := by decide +kernel
theorem dX0_fewestKept_128 : decode cX0_fewestKept 128 = .ok (.ifCond .eq 6, 3) := by decide +kernel
theorem dX0_fewestKept_134 : decode cX0_fewestKept 134 = .ok (.lload_n 3, 1) := by decide +kernel
theorem dX0_fewestKept_135 : decode cX0_fewestKept 135 = .ok (.aload_n 0, 1) := by decide +kernel
theorem dX0_fewestKept_136 : decode cX0_fewestKept 136 = .ok (.iload 5, 2) := by decide +kernel
theorem dX0_fewestKept_138 : decode cX0_fewestKept 138 = .ok (.invokevirtual 361, 3) := by decide +kernel
theorem dX0_takeMostSpared_0 : decode cX0_takeMostSpared 0 = .ok (.iconst 0, 1) := by decide +kernel
theorem dX0_takeMostSpared_1 : decode cX0_takeMostSpared 1 = .ok (.istore_n 2, 1) := by decide +kernel
theorem dX0_takeMostSpared_2 : decode cX0_takeMostSpared 2 = .ok (.iconst 0, 1) := by decide +kernel
theorem dX0_takeMostSpared_3 : decode cX0_takeMostSpared 3 = .ok (.istore_n 3, 1) := by decide +kernel
theorem dX0_takeMostSpared_4 : decode cX0_takeMostSpared 4 = .ok (.iconst 0, 1) := by decide +kernel
theorem dX0_takeMostSpared_5 : decode cX0_takeMostSpared 5 = .ok (.istore 4, 2) := by decide +kernel
theorem dX0_takeMostSpared_7 : decode cX0_takeMostSpared 7 = .ok (.iload 4, 2) := by decide +kernel
theorem dX0_takeMostSpared_9 : decode cX0_takeMostSpared 9 = .ok (.iload_n 1, 1) := by decide +kernel
theorem dX0_takeMostSpared_10 : decode cX0_takeMostSpared 10 = .ok (.if_icmp .ge 31, 3) := by decide +kernel
theorem dX0_takeMostSpared_41 : decode cX0_takeMostSpared 41 = .ok (.aload_n 0, 1) := by decide +kernel
theorem dX0_takeMostSpared_42 : decode cX0_takeMostSpared 42 = .ok (.getfield 61, 3) := by decide +kernel
theorem dX0_takeMostSpared_45 : decode cX0_takeMostSpared 45 = .ok (.iload_n 3, 1) := by decide +kernel
theorem dX0_takeMostSpared_46 : decode cX0_takeMostSpared 46 = .ok (.iconst 0, 1) := by decide +kernel
theorem dX0_takeMostSpared_47 : decode cX0_takeMostSpared 47 = .ok (.iastore, 1) := by decide +kernel
theorem dX0_takeMostSpared_48 : decode cX0_takeMostSpared 48 = .ok (.iload_n 2, 1) := by decide +kernel
theorem dX0_takeMostSpared_49 : decode cX0_takeMostSpared 49 = .ok (.ireturn, 1) := by decide +kernel
theorem dX0_takeMostSpared_13 : decode cX0_takeMostSpared 13 = .ok (.aload_n 0, 1) := by decide +kernel
theorem dX0_takeMostSpared_14 : decode cX0_takeMostSpared 14 = .ok (.getfield 61, 3) := by decide +kernel
theorem dX0_takeMostSpared_17 : decode cX0_takeMostSpared 17 = .ok (.iload 4, 2) := by decide +kernel
theorem dX0_takeMostSpared_19 : decode cX0_takeMostSpared 19 = .ok (.iaload, 1) := by decide +kernel
theorem dX0_takeMostSpared_20 : decode cX0_takeMostSpared 20 = .ok (.iload_n 2, 1) := by decide +kernel
theorem dX0_takeMostSpared_21 : decode cX0_takeMostSpared 21 = .ok (.if_icmp .le 14, 3) := by decide +kernel
theorem dX0_takeMostSpared_35 : decode cX0_takeMostSpared 35 = .ok (.iinc 4 1, 3) := by decide +kernel
theorem dX0_takeMostSpared_38 : decode cX0_takeMostSpared 38 = .ok (.goto (-31), 3) := by decide +kernel
theorem dX0_takeMostSpared_24 : decode cX0_takeMostSpared 24 = .ok (.aload_n 0, 1) := by decide +kernel
theorem dX0_takeMostSpared_25 : decode cX0_takeMostSpared 25 = .ok (.getfield 61, 3) := by decide +kernel
theorem dX0_takeMostSpared_28 : decode cX0_takeMostSpared 28 = .ok (.iload 4, 2) := by decide +kernel
theorem dX0_takeMostSpared_30 : decode cX0_takeMostSpared 30 = .ok (.iaload, 1) := by decide +kernel
theorem dX0_takeMostSpared_31 : decode cX0_takeMostSpared 31 = .ok (.istore_n 2, 1) := by decide +kernel
theorem dX0_takeMostSpared_32 : decode cX0_takeMostSpared 32 = .ok (.iload 4, 2) := by decide +kernel
theorem dX0_takeMostSpared_34 : decode cX0_takeMostSpared 34 = .ok (.istore_n 3, 1) := by decide +kernel
theorem dX0_fewestKept_141 : decode cX0_fewestKept 141 = .ok (.i2l, 1) := by decide +kernel
theorem dX0_fewestKept_142 : decode cX0_fewestKept 142 = .ok (.lsub, 1) := by decide +kernel
theorem dX0_fewestKept_143 : decode cX0_fewestKept 143 = .ok (.lstore_n 3, 1) := by decide +kernel
theorem dX0_fewestKept_144 : decode cX0_fewestKept 144 = .ok (.iinc 6 1, 3) := by decide +kernel
theorem dX0_fewestKept_147 : decode cX0_fewestKept 147 = .ok (.goto (-51), 3) := by decide +kernel
theorem dX0_fewestKept_131 : decode cX0_fewestKept 131 = .ok (.iload 6, 2) := by decide +kernel
theorem dX0_fewestKept_133 : decode cX0_fewestKept 133 = .ok (.ireturn, 1) := by decide +kernel
theorem dX0_fewestKept_20 : decode cX0_fewestKept 20 = .ok (.aload_n 0, 1) := by decide +kernel
theorem dX0_fewestKept_21 : decode cX0_fewestKept 21 = .ok (.getfield 21, 3) := by decide +kernel
theorem dX0_fewestKept_24 : decode cX0_fewestKept 24 = .ok (.getfield 204, 3) := by decide +kernel
theorem dX0_fewestKept_27 : decode cX0_fewestKept 27 = .ok (.iload 6, 2) := by decide +kernel
theorem dX0_fewestKept_29 : decode cX0_fewestKept 29 = .ok (.iaload, 1) := by decide +kernel
theorem dX0_fewestKept_30 : decode cX0_fewestKept 30 = .ok (.iload_n 1, 1) := by decide +kernel
theorem dX0_fewestKept_31 : decode cX0_fewestKept 31 = .ok (.if_icmp .ne 56, 3) := by decide +kernel
theorem dX0_fewestKept_87 : decode cX0_fewestKept 87 = .ok (.iinc 6 1, 3) := by decide +kernel
theorem dX0_fewestKept_90 : decode cX0_fewestKept 90 = .ok (.goto (-82), 3) := by decide +kernel
theorem dX0_fewestKept_34 : decode cX0_fewestKept 34 = .ok (.aload_n 0, 1) := by decide +kernel
theorem dX0_fewestKept_35 : decode cX0_fewestKept 35 = .ok (.getfield 21, 3) := by decide +kernel
theorem dX0_fewestKept_38 : decode cX0_fewestKept 38 = .ok (.getfield 124, 3) := by decide +kernel
theorem dX0_fewestKept_41 : decode cX0_fewestKept 41 = .ok (.iload 6, 2) := by decide +kernel
theorem dX0_fewestKept_43 : decode cX0_fewestKept 43 = .ok (.iaload, 1) := by decide +kernel
theorem dX0_fewestKept_44 : decode cX0_fewestKept 44 = .ok (.iconst (-1), 1) := by decide +kernel
theorem dX0_fewestKept_45 : decode cX0_fewestKept 45 = .ok (.if_icmp .eq 42, 3) := by decide +kernel
theorem dX0_fewestKept_48 : decode cX0_fewestKept 48 = .ok (.lload_n 3, 1) := by decide +kernel
theorem dX0_fewestKept_49 : decode cX0_fewestKept 49 = .ok (.aload_n 0, 1) := by decide +kernel
theorem dX0_fewestKept_50 : decode cX0_fewestKept 50 = .ok (.getfield 21, 3) := by decide +kernel
theorem dX0_fewestKept_53 : decode cX0_fewestKept 53 = .ok (.iload 6, 2) := by decide +kernel
theorem dX0_fewestKept_55 : decode cX0_fewestKept 55 = .ok (.invokevirtual 185, 3) := by decide +kernel
theorem dX0_fewestKept_58 : decode cX0_fewestKept 58 = .ok (.i2l, 1) := by decide +kernel
theorem dX0_fewestKept_59 : decode cX0_fewestKept 59 = .ok (.ladd, 1) := by decide +kernel
theorem dX0_fewestKept_60 : decode cX0_fewestKept 60 = .ok (.lstore_n 3, 1) := by decide +kernel
theorem dX0_fewestKept_61 : decode cX0_fewestKept 61 = .ok (.aload_n 0, 1) := by decide +kernel
theorem dX0_fewestKept_62 : decode cX0_fewestKept 62 = .ok (.getfield 61, 3) := by decide +kernel
theorem dX0_fewestKept_65 : decode cX0_fewestKept 65 = .ok (.iload 5, 2) := by decide +kernel
theorem dX0_fewestKept_67 : decode cX0_fewestKept 67 = .ok (.aload_n 0, 1) := by decide +kernel
theorem dX0_fewestKept_68 : decode cX0_fewestKept 68 = .ok (.getfield 21, 3) := by decide +kernel
theorem dX0_fewestKept_71 : decode cX0_fewestKept 71 = .ok (.iload 6, 2) := by decide +kernel
theorem dX0_fewestKept_73 : decode cX0_fewestKept 73 = .ok (.invokevirtual 185, 3) := by decide +kernel
theorem dX0_fewestKept_76 : decode cX0_fewestKept 76 = .ok (.aload_n 0, 1) := by decide +kernel
theorem dX0_fewestKept_77 : decode cX0_fewestKept 77 = .ok (.iload 6, 2) := by decide +kernel
theorem dX0_fewestKept_79 : decode cX0_fewestKept 79 = .ok (.invokevirtual 195, 3) := by decide +kernel
theorem dX0_fewestKept_82 : decode cX0_fewestKept 82 = .ok (.isub, 1) := by decide +kernel
theorem dX0_fewestKept_83 : decode cX0_fewestKept 83 = .ok (.iastore, 1) := by decide +kernel
theorem dX0_fewestKept_84 : decode cX0_fewestKept 84 = .ok (.iinc 5 1, 3) := by decide +kernel
theorem dX0_keepsFor_0 : decode cX0_keepsFor 0 = .ok (.iload_n 1, 1) := by decide +kernel
theorem dX0_keepsFor_1 : decode cX0_keepsFor 1 = .ok (.iconst (-1), 1) := by decide +kernel
theorem dX0_keepsFor_2 : decode cX0_keepsFor 2 = .ok (.if_icmp .eq 19, 3) := by decide +kernel
theorem dX0_keepsFor_22 : decode cX0_keepsFor 22 = .ok (.ireturn, 1) := by decide +kernel
theorem dX0_keepsFor_21 : decode cX0_keepsFor 21 = .ok (.iconst 0, 1) := by decide +kernel
theorem dX0_keepsFor_5 : decode cX0_keepsFor 5 = .ok (.aload_n 0, 1) := by decide +kernel
theorem dX0_keepsFor_6 : decode cX0_keepsFor 6 = .ok (.sipush 262, 3) := by decide +kernel
theorem dX0_keepsFor_9 : decode cX0_keepsFor 9 = .ok (.iload_n 1, 1) := by decide +kernel
theorem dX0_keepsFor_10 : decode cX0_keepsFor 10 = .ok (.iload_n 2, 1) := by decide +kernel
theorem dX0_keepsFor_11 : decode cX0_keepsFor 11 = .ok (.invokevirtual 191, 3) := by decide +kernel
theorem dX0_keepsFor_14 : decode cX0_keepsFor 14 = .ok (.ifCond .eq 7, 3) := by decide +kernel
theorem dX0_keepsFor_17 : decode cX0_keepsFor 17 = .ok (.iconst 1, 1) := by decide +kernel
theorem dX0_keepsFor_18 : decode cX0_keepsFor 18 = .ok (.goto 4, 3) := by decide +kernel
theorem dX0_lookAtNow_0 : decode cX0_lookAtNow 0 = .ok (.aload_n 0, 1) := by decide +kernel
theorem dX0_lookAtNow_1 : decode cX0_lookAtNow 1 = .ok (.getfield 42, 3) := by decide +kernel
theorem dX0_lookAtNow_4 : decode cX0_lookAtNow 4 = .ok (.aload_n 0, 1) := by decide +kernel
theorem dX0_lookAtNow_5 : decode cX0_lookAtNow 5 = .ok (.getfield 93, 3) := by decide +kernel
theorem dX0_lookAtNow_8 : decode cX0_lookAtNow 8 = .ok (.invokevirtual 113, 3) := by decide +kernel
theorem dX0_lookAtNow_11 : decode cX0_lookAtNow 11 = .ok (.aload_n 0, 1) := by decide +kernel
theorem dX0_lookAtNow_12 : decode cX0_lookAtNow 12 = .ok (.aload_n 0, 1) := by decide +kernel
theorem dX0_lookAtNow_13 : decode cX0_lookAtNow 13 = .ok (.getfield 97, 3) := by decide +kernel
theorem dX0_lookAtNow_16 : decode cX0_lookAtNow 16 = .ok (.ifCond .eq 10, 3) := by decide +kernel
theorem dX0_lookAtNow_37 : decode cX0_lookAtNow 37 = .ok (.putfield 121, 3) := by decide +kernel
theorem dX0_lookAtNow_40 : decode cX0_lookAtNow 40 = .ok (.return_, 1) := by decide +kernel
theorem dX0_lookAtNow_26 : decode cX0_lookAtNow 26 = .ok (.aload_n 0, 1) := by decide +kernel
theorem dX0_lookAtNow_27 : decode cX0_lookAtNow 27 = .ok (.getfield 35, 3) := by decide +kernel
theorem dX0_lookAtNow_30 : decode cX0_lookAtNow 30 = .ok (.aload_n 0, 1) := by decide +kernel
theorem dX0_lookAtNow_31 : decode cX0_lookAtNow 31 = .ok (.getfield 93, 3) := by decide +kernel
theorem dX0_lookAtNow_34 : decode cX0_lookAtNow 34 = .ok (.invokevirtual 117, 3) := by decide +kernel
theorem dX0_lookAtNow_19 : decode cX0_lookAtNow 19 = .ok (.aload_n 0, 1) := by decide +kernel
theorem dX0_lookAtNow_20 : decode cX0_lookAtNow 20 = .ok (.getfield 107, 3) := by decide +kernel
theorem dX0_lookAtNow_23 : decode cX0_lookAtNow 23 = .ok (.goto 14, 3) := by decide +kernel
theorem dX0_passWeek_0 : decode cX0_passWeek 0 = .ok (.aload_n 0, 1) := by decide +kernel
theorem dX0_passWeek_1 : decode cX0_passWeek 1 = .ok (.getfield 93, 3) := by decide +kernel
theorem dX0_passWeek_4 : decode cX0_passWeek 4 = .ok (.sipush 399, 3) := by decide +kernel
theorem dX0_passWeek_7 : decode cX0_passWeek 7 = .ok (.if_icmp .lt 4, 3) := by decide +kernel
theorem dX0_passWeek_11 : decode cX0_passWeek 11 = .ok (.aload_n 0, 1) := by decide +kernel
theorem dX0_passWeek_12 : decode cX0_passWeek 12 = .ok (.invokevirtual 133, 3) := by decide +kernel
theorem dX0_passWeek_15 : decode cX0_passWeek 15 = .ok (.aload_n 0, 1) := by decide +kernel
theorem dX0_passWeek_16 : decode cX0_passWeek 16 = .ok (.invokevirtual 136, 3) := by decide +kernel
theorem dX0_reap_0 : decode cX0_reap 0 = .ok (.aload_n 0, 1) := by decide +kernel
theorem dX0_reap_1 : decode cX0_reap 1 = .ok (.getfield 97, 3) := by decide +kernel
theorem dX0_reap_4 : decode cX0_reap 4 = .ok (.ifCond .eq 21, 3) := by decide +kernel
theorem dX0_reap_45 : decode cX0_reap 45 = .ok (.istore_n 1, 1) := by decide +kernel
theorem dX0_reap_46 : decode cX0_reap 46 = .ok (.iconst 0, 1) := by decide +kernel
theorem dX0_reap_47 : decode cX0_reap 47 = .ok (.istore_n 2, 1) := by decide +kernel
theorem dX0_reap_48 : decode cX0_reap 48 = .ok (.iload_n 1, 1) := by decide +kernel
theorem dX0_reap_49 : decode cX0_reap 49 = .ok (.ifCond .eq 96, 3) := by decide +kernel
theorem dX0_reap_145 : decode cX0_reap 145 = .ok (.return_, 1) := by decide +kernel
theorem dX0_reap_52 : decode cX0_reap 52 = .ok (.iload_n 2, 1) := by decide +kernel
theorem dX0_reap_53 : decode cX0_reap 53 = .ok (.aload_n 0, 1) := by decide +kernel
theorem dX0_reap_54 : decode cX0_reap 54 = .ok (.getfield 21, 3) := by decide +kernel
theorem dX0_reap_57 : decode cX0_reap 57 = .ok (.getfield 171, 3) := by decide +kernel
theorem dX0_reap_60 : decode cX0_reap 60 = .ok (.if_icmp .ge 85, 3) := by decide +kernel
theorem dX0_reap_63 : decode cX0_reap 63 = .ok (.aload_n 0, 1) := by decide +kernel
theorem dX0_reap_64 : decode cX0_reap 64 = .ok (.getfield 21, 3) := by decide +kernel
theorem dX0_reap_67 : decode cX0_reap 67 = .ok (.getfield 124, 3) := by decide +kernel
theorem dX0_reap_70 : decode cX0_reap 70 = .ok (.iload_n 2, 1) := by decide +kernel
theorem dX0_reap_71 : decode cX0_reap 71 = .ok (.iaload, 1) := by decide +kernel
theorem dX0_reap_72 : decode cX0_reap 72 = .ok (.istore_n 3, 1) := by decide +kernel
theorem dX0_reap_73 : decode cX0_reap 73 = .ok (.aload_n 0, 1) := by decide +kernel
theorem dX0_reap_74 : decode cX0_reap 74 = .ok (.getfield 97, 3) := by decide +kernel
theorem dX0_reap_77 : decode cX0_reap 77 = .ok (.ifCond .eq 23, 3) := by decide +kernel
theorem dX0_reap_112 : decode cX0_reap 112 = .ok (.istore 4, 2) := by decide +kernel
theorem dX0_reap_114 : decode cX0_reap 114 = .ok (.iload_n 3, 1) := by decide +kernel
theorem dX0_reap_115 : decode cX0_reap 115 = .ok (.iconst (-1), 1) := by decide +kernel
theorem dX0_reap_116 : decode cX0_reap 116 = .ok (.if_icmp .eq 23, 3) := by decide +kernel
theorem dX0_reap_139 : decode cX0_reap 139 = .ok (.iinc 2 1, 3) := by decide +kernel
theorem dX0_reap_142 : decode cX0_reap 142 = .ok (.goto (-94), 3) := by decide +kernel
theorem dX0_reap_119 : decode cX0_reap 119 = .ok (.iload 4, 2) := by decide +kernel
theorem dX0_reap_121 : decode cX0_reap 121 = .ok (.iconst (-1), 1) := by decide +kernel
theorem dX0_reap_122 : decode cX0_reap 122 = .ok (.if_icmp .eq 17, 3) := by decide +kernel
theorem dX0_reap_125 : decode cX0_reap 125 = .ok (.aload_n 0, 1) := by decide +kernel
theorem dX0_reap_126 : decode cX0_reap 126 = .ok (.getfield 12, 3) := by decide +kernel
theorem dX0_reap_129 : decode cX0_reap 129 = .ok (.getfield 179, 3) := by decide +kernel
theorem dX0_reap_132 : decode cX0_reap 132 = .ok (.iload_n 3, 1) := by decide +kernel
theorem dX0_reap_133 : decode cX0_reap 133 = .ok (.dup2, 1) := by decide +kernel
theorem dX0_reap_134 : decode cX0_reap 134 = .ok (.iaload, 1) := by decide +kernel
theorem dX0_reap_135 : decode cX0_reap 135 = .ok (.iload 4, 2) := by decide +kernel
theorem dX0_reap_137 : decode cX0_reap 137 = .ok (.iadd, 1) := by decide +kernel
theorem dX0_reap_138 : decode cX0_reap 138 = .ok (.iastore, 1) := by decide +kernel
theorem dX0_reap_100 : decode cX0_reap 100 = .ok (.aload_n 0, 1) := by decide +kernel
theorem dX0_reap_101 : decode cX0_reap 101 = .ok (.getfield 35, 3) := by decide +kernel
theorem dX0_reap_104 : decode cX0_reap 104 = .ok (.iload_n 2, 1) := by decide +kernel
theorem dX0_reap_105 : decode cX0_reap 105 = .ok (.aload_n 0, 1) := by decide +kernel
theorem dX0_reap_106 : decode cX0_reap 106 = .ok (.getfield 93, 3) := by decide +kernel
theorem dX0_reap_109 : decode cX0_reap 109 = .ok (.invokevirtual 175, 3) := by decide +kernel
theorem dX0_reap_80 : decode cX0_reap 80 = .ok (.aload_n 0, 1) := by decide +kernel
theorem dX0_reap_81 : decode cX0_reap 81 = .ok (.getfield 110, 3) := by decide +kernel
theorem dX0_reap_84 : decode cX0_reap 84 = .ok (.aload_n 0, 1) := by decide +kernel
theorem dX0_reap_85 : decode cX0_reap 85 = .ok (.getfield 21, 3) := by decide +kernel
theorem dX0_reap_88 : decode cX0_reap 88 = .ok (.getfield 172, 3) := by decide +kernel
theorem dX0_reap_91 : decode cX0_reap 91 = .ok (.iload_n 2, 1) := by decide +kernel
theorem dX0_reap_92 : decode cX0_reap 92 = .ok (.iaload, 1) := by decide +kernel
theorem dX0_reap_93 : decode cX0_reap 93 = .ok (.imul, 1) := by decide +kernel
theorem dX0_reap_94 : decode cX0_reap 94 = .ok (.bipush 100, 2) := by decide +kernel
theorem dX0_reap_96 : decode cX0_reap 96 = .ok (.idiv, 1) := by decide +kernel
theorem dX0_reap_97 : decode cX0_reap 97 = .ok (.goto 15, 3) := by decide +kernel
theorem dX0_reap_25 : decode cX0_reap 25 = .ok (.aload_n 0, 1) := by decide +kernel
theorem dX0_reap_26 : decode cX0_reap 26 = .ok (.getfield 35, 3) := by decide +kernel
theorem dX0_reap_29 : decode cX0_reap 29 = .ok (.getfield 167, 3) := by decide +kernel
theorem dX0_reap_32 : decode cX0_reap 32 = .ok (.aload_n 0, 1) := by decide +kernel
theorem dX0_reap_33 : decode cX0_reap 33 = .ok (.getfield 93, 3) := by decide +kernel
theorem dX0_reap_36 : decode cX0_reap 36 = .ok (.aaload, 1) := by decide +kernel
theorem dX0_reap_37 : decode cX0_reap 37 = .ok (.ifnull 7, 3) := by decide +kernel
theorem dX0_reap_44 : decode cX0_reap 44 = .ok (.iconst 0, 1) := by decide +kernel
theorem dX0_reap_40 : decode cX0_reap 40 = .ok (.iconst 1, 1) := by decide +kernel
theorem dX0_reap_41 : decode cX0_reap 41 = .ok (.goto 4, 3) := by decide +kernel
theorem dX0_reap_7 : decode cX0_reap 7 = .ok (.aload_n 0, 1) := by decide +kernel
theorem dX0_reap_8 : decode cX0_reap 8 = .ok (.getfield 93, 3) := by decide +kernel
theorem dX0_reap_11 : decode cX0_reap 11 = .ok (.bipush 13, 2) := by decide +kernel
theorem dX0_reap_13 : decode cX0_reap 13 = .ok (.irem, 1) := by decide +kernel
theorem dX0_reap_14 : decode cX0_reap 14 = .ok (.ifCond .ne 7, 3) := by decide +kernel
theorem dX0_reap_21 : decode cX0_reap 21 = .ok (.iconst 0, 1) := by decide +kernel
theorem dX0_reap_22 : decode cX0_reap 22 = .ok (.goto 23, 3) := by decide +kernel
theorem dX0_reap_17 : decode cX0_reap 17 = .ok (.iconst 1, 1) := by decide +kernel
theorem dX0_reap_18 : decode cX0_reap 18 = .ok (.goto 27, 3) := by decide +kernel
theorem dX0_passWeek_19 : decode cX0_passWeek 19 = .ok (.aload_n 0, 1) := by decide +kernel
theorem dX0_passWeek_20 : decode cX0_passWeek 20 = .ok (.getfield 93, 3) := by decide +kernel
theorem dX0_passWeek_23 : decode cX0_passWeek 23 = .ok (.ifCond .eq 32, 3) := by decide +kernel
theorem dX0_passWeek_55 : decode cX0_passWeek 55 = .ok (.iconst 0, 1) := by decide +kernel
theorem dX0_passWeek_56 : decode cX0_passWeek 56 = .ok (.istore_n 1, 1) := by decide +kernel
theorem dX0_passWeek_57 : decode cX0_passWeek 57 = .ok (.iload_n 1, 1) := by decide +kernel
theorem dX0_passWeek_58 : decode cX0_passWeek 58 = .ok (.aload_n 0, 1) := by decide +kernel
theorem dX0_passWeek_59 : decode cX0_passWeek 59 = .ok (.getfield 28, 3) := by decide +kernel
theorem dX0_passWeek_62 : decode cX0_passWeek 62 = .ok (.getfield 148, 3) := by decide +kernel
theorem dX0_passWeek_65 : decode cX0_passWeek 65 = .ok (.if_icmp .ge 27, 3) := by decide +kernel
theorem dX0_passWeek_92 : decode cX0_passWeek 92 = .ok (.aload_n 0, 1) := by decide +kernel
theorem dX0_passWeek_93 : decode cX0_passWeek 93 = .ok (.invokevirtual 157, 3) := by decide +kernel
theorem dX0_payDraws_0 : decode cX0_payDraws 0 = .ok (.iconst 0, 1) := by decide +kernel
theorem dX0_payDraws_1 : decode cX0_payDraws 1 = .ok (.istore_n 1, 1) := by decide +kernel
theorem dX0_payDraws_2 : decode cX0_payDraws 2 = .ok (.iload_n 1, 1) := by decide +kernel
theorem dX0_payDraws_3 : decode cX0_payDraws 3 = .ok (.aload_n 0, 1) := by decide +kernel
theorem dX0_payDraws_4 : decode cX0_payDraws 4 = .ok (.getfield 12, 3) := by decide +kernel
theorem dX0_payDraws_7 : decode cX0_payDraws 7 = .ok (.getfield 263, 3) := by decide +kernel
theorem dX0_payDraws_10 : decode cX0_payDraws 10 = .ok (.if_icmp .ge 87, 3) := by decide +kernel
theorem dX0_payDraws_97 : decode cX0_payDraws 97 = .ok (.return_, 1) := by decide +kernel
theorem dX0_payDraws_13 : decode cX0_payDraws 13 = .ok (.aload_n 0, 1) := by decide +kernel
theorem dX0_payDraws_14 : decode cX0_payDraws 14 = .ok (.getfield 12, 3) := by decide +kernel
theorem dX0_payDraws_17 : decode cX0_payDraws 17 = .ok (.getfield 182, 3) := by decide +kernel
theorem dX0_payDraws_20 : decode cX0_payDraws 20 = .ok (.iload_n 1, 1) := by decide +kernel
theorem dX0_payDraws_21 : decode cX0_payDraws 21 = .ok (.iaload, 1) := by decide +kernel
theorem dX0_payDraws_22 : decode cX0_payDraws 22 = .ok (.iconst 1, 1) := by decide +kernel
theorem dX0_payDraws_23 : decode cX0_payDraws 23 = .ok (.if_icmp .ne 68, 3) := by decide +kernel
theorem dX0_payDraws_91 : decode cX0_payDraws 91 = .ok (.iinc 1 1, 3) := by decide +kernel
theorem dX0_payDraws_94 : decode cX0_payDraws 94 = .ok (.goto (-92), 3) := by decide +kernel
theorem dX0_payDraws_26 : decode cX0_payDraws 26 = .ok (.aload_n 0, 1) := by decide +kernel
theorem dX0_payDraws_27 : decode cX0_payDraws 27 = .ok (.getfield 12, 3) := by decide +kernel
theorem dX0_payDraws_30 : decode cX0_payDraws 30 = .ok (.getfield 130, 3) := by decide +kernel
theorem dX0_payDraws_33 : decode cX0_payDraws 33 = .ok (.iload_n 1, 1) := by decide +kernel
theorem dX0_payDraws_34 : decode cX0_payDraws 34 = .ok (.iaload, 1) := by decide +kernel
theorem dX0_payDraws_35 : decode cX0_payDraws 35 = .ok (.iconst (-1), 1) := by decide +kernel
theorem dX0_payDraws_36 : decode cX0_payDraws 36 = .ok (.if_icmp .ne 6, 3) := by decide +kernel
theorem dX0_payDraws_42 : decode cX0_payDraws 42 = .ok (.aload_n 0, 1) := by decide +kernel
theorem dX0_payDraws_43 : decode cX0_payDraws 43 = .ok (.iload_n 1, 1) := by decide +kernel
theorem dX0_payDraws_44 : decode cX0_payDraws 44 = .ok (.invokevirtual 264, 3) := by decide +kernel
theorem dX0_payDraws_47 : decode cX0_payDraws 47 = .ok (.lstore_n 2, 1) := by decide +kernel
theorem dX0_payDraws_48 : decode cX0_payDraws 48 = .ok (.lload_n 2, 1) := by decide +kernel
theorem dX0_payDraws_49 : decode cX0_payDraws 49 = .ok (.lconst 0, 1) := by decide +kernel
theorem dX0_payDraws_50 : decode cX0_payDraws 50 = .ok (.lcmp, 1) := by decide +kernel
theorem dX0_payDraws_51 : decode cX0_payDraws 51 = .ok (.ifCond .le 40, 3) := by decide +kernel
theorem dX0_payDraws_54 : decode cX0_payDraws 54 = .ok (.lload_n 2, 1) := by decide +kernel
theorem dX0_payDraws_55 : decode cX0_payDraws 55 = .ok (.aload_n 0, 1) := by decide +kernel
theorem dX0_payDraws_56 : decode cX0_payDraws 56 = .ok (.getfield 49, 3) := by decide +kernel
theorem dX0_payDraws_59 : decode cX0_payDraws 59 = .ok (.getfield 268, 3) := by decide +kernel
theorem dX0_payDraws_62 : decode cX0_payDraws 62 = .ok (.i2l, 1) := by decide +kernel
theorem dX0_payDraws_63 : decode cX0_payDraws 63 = .ok (.lcmp, 1) := by decide +kernel
theorem dX0_payDraws_64 : decode cX0_payDraws 64 = .ok (.ifCond .gt 27, 3) := by decide +kernel
theorem dX0_payDraws_67 : decode cX0_payDraws 67 = .ok (.aload_n 0, 1) := by decide +kernel
theorem dX0_payDraws_68 : decode cX0_payDraws 68 = .ok (.getfield 49, 3) := by decide +kernel
theorem dX0_payDraws_71 : decode cX0_payDraws 71 = .ok (.dup, 1) := by decide +kernel
theorem dX0_payDraws_72 : decode cX0_payDraws 72 = .ok (.getfield 268, 3) := by decide +kernel
theorem dX0_payDraws_75 : decode cX0_payDraws 75 = .ok (.lload_n 2, 1) := by decide +kernel
theorem dX0_payDraws_76 : decode cX0_payDraws 76 = .ok (.l2i, 1) := by decide +kernel
theorem dX0_payDraws_77 : decode cX0_payDraws 77 = .ok (.isub, 1) := by decide +kernel
theorem dX0_payDraws_78 : decode cX0_payDraws 78 = .ok (.putfield 268, 3) := by decide +kernel
theorem dX0_payDraws_81 : decode cX0_payDraws 81 = .ok (.aload_n 0, 1) := by decide +kernel
theorem dX0_payDraws_82 : decode cX0_payDraws 82 = .ok (.getfield 12, 3) := by decide +kernel
theorem dX0_payDraws_85 : decode cX0_payDraws 85 = .ok (.iload_n 1, 1) := by decide +kernel
theorem dX0_payDraws_86 : decode cX0_payDraws 86 = .ok (.lload_n 2, 1) := by decide +kernel
theorem dX0_payDraws_87 : decode cX0_payDraws 87 = .ok (.l2i, 1) := by decide +kernel
theorem dX0_payDraws_88 : decode cX0_payDraws 88 = .ok (.invokevirtual 271, 3) := by decide +kernel
theorem dX0_payDraws_39 : decode cX0_payDraws 39 = .ok (.goto 52, 3) := by decide +kernel
theorem dX0_passWeek_96 : decode cX0_passWeek 96 = .ok (.aload_n 0, 1) := by decide +kernel
theorem dX0_passWeek_97 : decode cX0_passWeek 97 = .ok (.getfield 64, 3) := by decide +kernel
theorem dX0_passWeek_100 : decode cX0_passWeek 100 = .ok (.ifCond .eq 13, 3) := by decide +kernel
theorem dX0_passWeek_117 : decode cX0_passWeek 117 = .ok (.aload_n 0, 1) := by decide +kernel
theorem dX0_passWeek_118 : decode cX0_passWeek 118 = .ok (.dup, 1) := by decide +kernel
theorem dX0_passWeek_119 : decode cX0_passWeek 119 = .ok (.getfield 93, 3) := by decide +kernel
theorem dX0_passWeek_122 : decode cX0_passWeek 122 = .ok (.iconst 1, 1) := by decide +kernel
theorem dX0_passWeek_123 : decode cX0_passWeek 123 = .ok (.iadd, 1) := by decide +kernel
theorem dX0_passWeek_124 : decode cX0_passWeek 124 = .ok (.putfield 93, 3) := by decide +kernel
theorem dX0_passWeek_127 : decode cX0_passWeek 127 = .ok (.return_, 1) := by decide +kernel
theorem dX0_passWeek_113 : decode cX0_passWeek 113 = .ok (.aload_n 0, 1) := by decide +kernel
theorem dX0_passWeek_114 : decode cX0_passWeek 114 = .ok (.invokevirtual 164, 3) := by decide +kernel
theorem dX0_renewBans_0 : decode cX0_renewBans 0 = .ok (.iconst 0, 1) := by decide +kernel
theorem dX0_renewBans_1 : decode cX0_renewBans 1 = .ok (.istore_n 1, 1) := by decide +kernel
theorem dX0_renewBans_2 : decode cX0_renewBans 2 = .ok (.iload_n 1, 1) := by decide +kernel
theorem dX0_renewBans_3 : decode cX0_renewBans 3 = .ok (.aload_n 0, 1) := by decide +kernel
theorem dX0_renewBans_4 : decode cX0_renewBans 4 = .ok (.getfield 12, 3) := by decide +kernel
theorem dX0_renewBans_7 : decode cX0_renewBans 7 = .ok (.getfield 263, 3) := by decide +kernel
theorem dX0_renewBans_10 : decode cX0_renewBans 10 = .ok (.if_icmp .ge 35, 3) := by decide +kernel
theorem dX0_renewBans_45 : decode cX0_renewBans 45 = .ok (.aload_n 0, 1) := by decide +kernel
theorem dX0_renewBans_46 : decode cX0_renewBans 46 = .ok (.getfield 12, 3) := by decide +kernel
theorem dX0_renewBans_49 : decode cX0_renewBans 49 = .ok (.getfield 274, 3) := by decide +kernel
theorem dX0_renewBans_52 : decode cX0_renewBans 52 = .ok (.iconst 0, 1) := by decide +kernel
theorem dX0_renewBans_53 : decode cX0_renewBans 53 = .ok (.aload_n 0, 1) := by decide +kernel
theorem dX0_renewBans_54 : decode cX0_renewBans 54 = .ok (.getfield 12, 3) := by decide +kernel
theorem dX0_renewBans_57 : decode cX0_renewBans 57 = .ok (.getfield 277, 3) := by decide +kernel
theorem dX0_renewBans_60 : decode cX0_renewBans 60 = .ok (.iconst 0, 1) := by decide +kernel
theorem dX0_renewBans_61 : decode cX0_renewBans 61 = .ok (.aload_n 0, 1) := by decide +kernel
theorem dX0_renewBans_62 : decode cX0_renewBans 62 = .ok (.getfield 12, 3) := by decide +kernel
theorem dX0_renewBans_65 : decode cX0_renewBans 65 = .ok (.getfield 263, 3) := by decide +kernel
theorem dX0_renewBans_68 : decode cX0_renewBans 68 = .ok (.invokestatic 280, 3) := by decide +kernel
theorem dX0_renewBans_71 : decode cX0_renewBans 71 = .ok (.return_, 1) := by decide +kernel
theorem dX0_renewBans_13 : decode cX0_renewBans 13 = .ok (.aload_n 0, 1) := by decide +kernel
theorem dX0_renewBans_14 : decode cX0_renewBans 14 = .ok (.getfield 12, 3) := by decide +kernel
theorem dX0_renewBans_17 : decode cX0_renewBans 17 = .ok (.getfield 274, 3) := by decide +kernel
theorem dX0_renewBans_20 : decode cX0_renewBans 20 = .ok (.iload_n 1, 1) := by decide +kernel
theorem dX0_renewBans_21 : decode cX0_renewBans 21 = .ok (.aload_n 0, 1) := by decide +kernel
theorem dX0_renewBans_22 : decode cX0_renewBans 22 = .ok (.sipush 263, 3) := by decide +kernel
theorem dX0_renewBans_25 : decode cX0_renewBans 25 = .ok (.iload_n 1, 1) := by decide +kernel
theorem dX0_renewBans_26 : decode cX0_renewBans 26 = .ok (.iconst (-1), 1) := by decide +kernel
theorem dX0_renewBans_27 : decode cX0_renewBans 27 = .ok (.invokevirtual 191, 3) := by decide +kernel
theorem dX0_renewBans_30 : decode cX0_renewBans 30 = .ok (.ifCond .eq 7, 3) := by decide +kernel
theorem dX0_renewBans_38 : decode cX0_renewBans 38 = .ok (.iastore, 1) := by decide +kernel
theorem dX0_renewBans_39 : decode cX0_renewBans 39 = .ok (.iinc 1 1, 3) := by decide +kernel
theorem dX0_renewBans_42 : decode cX0_renewBans 42 = .ok (.goto (-40), 3) := by decide +kernel
theorem dX0_renewBans_37 : decode cX0_renewBans 37 = .ok (.iconst 0, 1) := by decide +kernel
theorem dX0_renewBans_33 : decode cX0_renewBans 33 = .ok (.iconst 1, 1) := by decide +kernel
theorem dX0_renewBans_34 : decode cX0_renewBans 34 = .ok (.goto 4, 3) := by decide +kernel
theorem dX0_passWeek_103 : decode cX0_passWeek 103 = .ok (.aload_n 0, 1) := by decide +kernel
theorem dX0_passWeek_104 : decode cX0_passWeek 104 = .ok (.getfield 42, 3) := by decide +kernel
theorem dX0_passWeek_107 : decode cX0_passWeek 107 = .ok (.invokevirtual 160, 3) := by decide +kernel
theorem dX0_passWeek_110 : decode cX0_passWeek 110 = .ok (.ifCond .eq 7, 3) := by decide +kernel
theorem dX0_passWeek_68 : decode cX0_passWeek 68 = .ok (.aload_n 0, 1) := by decide +kernel
theorem dX0_passWeek_69 : decode cX0_passWeek 69 = .ok (.getfield 28, 3) := by decide +kernel
theorem dX0_passWeek_72 : decode cX0_passWeek 72 = .ok (.getfield 151, 3) := by decide +kernel
theorem dX0_passWeek_75 : decode cX0_passWeek 75 = .ok (.iload_n 1, 1) := by decide +kernel
theorem dX0_passWeek_76 : decode cX0_passWeek 76 = .ok (.iaload, 1) := by decide +kernel
theorem dX0_passWeek_77 : decode cX0_passWeek 77 = .ok (.iconst 1, 1) := by decide +kernel
theorem dX0_passWeek_78 : decode cX0_passWeek 78 = .ok (.if_icmp .ne 8, 3) := by decide +kernel
theorem dX0_passWeek_86 : decode cX0_passWeek 86 = .ok (.iinc 1 1, 3) := by decide +kernel
theorem dX0_passWeek_89 : decode cX0_passWeek 89 = .ok (.goto (-32), 3) := by decide +kernel
theorem dX0_passWeek_81 : decode cX0_passWeek 81 = .ok (.aload_n 0, 1) := by decide +kernel
theorem dX0_passWeek_82 : decode cX0_passWeek 82 = .ok (.iload_n 1, 1) := by decide +kernel
theorem dX0_passWeek_83 : decode cX0_passWeek 83 = .ok (.invokevirtual 154, 3) := by decide +kernel
theorem dX0_passWeek_26 : decode cX0_passWeek 26 = .ok (.aload_n 0, 1) := by decide +kernel
theorem dX0_passWeek_27 : decode cX0_passWeek 27 = .ok (.getfield 93, 3) := by decide +kernel
theorem dX0_passWeek_30 : decode cX0_passWeek 30 = .ok (.bipush 13, 2) := by decide +kernel
theorem dX0_passWeek_32 : decode cX0_passWeek 32 = .ok (.irem, 1) := by decide +kernel
theorem dX0_passWeek_33 : decode cX0_passWeek 33 = .ok (.ifCond .ne 22, 3) := by decide +kernel
theorem dX0_passWeek_36 : decode cX0_passWeek 36 = .ok (.aload_n 0, 1) := by decide +kernel
theorem dX0_passWeek_37 : decode cX0_passWeek 37 = .ok (.invokevirtual 139, 3) := by decide +kernel
theorem dX0_passWeek_40 : decode cX0_passWeek 40 = .ok (.aload_n 0, 1) := by decide +kernel
theorem dX0_passWeek_41 : decode cX0_passWeek 41 = .ok (.invokevirtual 142, 3) := by decide +kernel
theorem dX0_payMortgages_0 : decode cX0_payMortgages 0 = .ok (.iconst 0, 1) := by decide +kernel
theorem dX0_payMortgages_1 : decode cX0_payMortgages 1 = .ok (.istore_n 1, 1) := by decide +kernel
theorem dX0_payMortgages_2 : decode cX0_payMortgages 2 = .ok (.iload_n 1, 1) := by decide +kernel
theorem dX0_payMortgages_3 : decode cX0_payMortgages 3 = .ok (.aload_n 0, 1) := by decide +kernel
theorem dX0_payMortgages_4 : decode cX0_payMortgages 4 = .ok (.getfield 21, 3) := by decide +kernel
theorem dX0_payMortgages_7 : decode cX0_payMortgages 7 = .ok (.getfield 216, 3) := by decide +kernel
theorem dX0_payMortgages_10 : decode cX0_payMortgages 10 = .ok (.if_icmp .ge 96, 3) := by decide +kernel
theorem dX0_payMortgages_106 : decode cX0_payMortgages 106 = .ok (.return_, 1) := by decide +kernel
theorem dX0_payMortgages_13 : decode cX0_payMortgages 13 = .ok (.aload_n 0, 1) := by decide +kernel
theorem dX0_payMortgages_14 : decode cX0_payMortgages 14 = .ok (.getfield 21, 3) := by decide +kernel
theorem dX0_payMortgages_17 : decode cX0_payMortgages 17 = .ok (.getfield 219, 3) := by decide +kernel
theorem dX0_payMortgages_20 : decode cX0_payMortgages 20 = .ok (.iload_n 1, 1) := by decide +kernel
theorem dX0_payMortgages_21 : decode cX0_payMortgages 21 = .ok (.iaload, 1) := by decide +kernel
theorem dX0_payMortgages_22 : decode cX0_payMortgages 22 = .ok (.iconst (-1), 1) := by decide +kernel
theorem dX0_payMortgages_23 : decode cX0_payMortgages 23 = .ok (.if_icmp .eq 6, 3) := by decide +kernel
theorem dX0_payMortgages_100 : decode cX0_payMortgages 100 = .ok (.iinc 1 1, 3) := by decide +kernel
theorem dX0_payMortgages_103 : decode cX0_payMortgages 103 = .ok (.goto (-101), 3) := by decide +kernel
theorem dX0_payMortgages_29 : decode cX0_payMortgages 29 = .ok (.aload_n 0, 1) := by decide +kernel
theorem dX0_payMortgages_30 : decode cX0_payMortgages 30 = .ok (.getfield 21, 3) := by decide +kernel
theorem dX0_payMortgages_33 : decode cX0_payMortgages 33 = .ok (.getfield 201, 3) := by decide +kernel
theorem dX0_payMortgages_36 : decode cX0_payMortgages 36 = .ok (.iload_n 1, 1) := by decide +kernel
theorem dX0_payMortgages_37 : decode cX0_payMortgages 37 = .ok (.iaload, 1) := by decide +kernel
theorem dX0_payMortgages_38 : decode cX0_payMortgages 38 = .ok (.aload_n 0, 1) := by decide +kernel
theorem dX0_payMortgages_39 : decode cX0_payMortgages 39 = .ok (.getfield 21, 3) := by decide +kernel
theorem dX0_payMortgages_42 : decode cX0_payMortgages 42 = .ok (.getfield 222, 3) := by decide +kernel
theorem dX0_payMortgages_45 : decode cX0_payMortgages 45 = .ok (.iload_n 1, 1) := by decide +kernel
theorem dX0_payMortgages_46 : decode cX0_payMortgages 46 = .ok (.iaload, 1) := by decide +kernel
theorem dX0_payMortgages_47 : decode cX0_payMortgages 47 = .ok (.if_icmp .ge 32, 3) := by decide +kernel
theorem dX0_payMortgages_79 : decode cX0_payMortgages 79 = .ok (.aload_n 0, 1) := by decide +kernel
theorem dX0_payMortgages_80 : decode cX0_payMortgages 80 = .ok (.getfield 21, 3) := by decide +kernel
theorem dX0_payMortgages_83 : decode cX0_payMortgages 83 = .ok (.getfield 201, 3) := by decide +kernel
theorem dX0_payMortgages_86 : decode cX0_payMortgages 86 = .ok (.iload_n 1, 1) := by decide +kernel
theorem dX0_payMortgages_87 : decode cX0_payMortgages 87 = .ok (.dup2, 1) := by decide +kernel
theorem dX0_payMortgages_88 : decode cX0_payMortgages 88 = .ok (.iaload, 1) := by decide +kernel
theorem dX0_payMortgages_89 : decode cX0_payMortgages 89 = .ok (.aload_n 0, 1) := by decide +kernel
theorem dX0_payMortgages_90 : decode cX0_payMortgages 90 = .ok (.getfield 21, 3) := by decide +kernel
theorem dX0_payMortgages_93 : decode cX0_payMortgages 93 = .ok (.getfield 222, 3) := by decide +kernel
theorem dX0_payMortgages_96 : decode cX0_payMortgages 96 = .ok (.iload_n 1, 1) := by decide +kernel
theorem dX0_payMortgages_97 : decode cX0_payMortgages 97 = .ok (.iaload, 1) := by decide +kernel
theorem dX0_payMortgages_98 : decode cX0_payMortgages 98 = .ok (.isub, 1) := by decide +kernel
theorem dX0_payMortgages_99 : decode cX0_payMortgages 99 = .ok (.iastore, 1) := by decide +kernel
theorem dX0_payMortgages_50 : decode cX0_payMortgages 50 = .ok (.aload_n 0, 1) := by decide +kernel
theorem dX0_payMortgages_51 : decode cX0_payMortgages 51 = .ok (.getfield 21, 3) := by decide +kernel
theorem dX0_payMortgages_54 : decode cX0_payMortgages 54 = .ok (.getfield 219, 3) := by decide +kernel
theorem dX0_payMortgages_57 : decode cX0_payMortgages 57 = .ok (.iload_n 1, 1) := by decide +kernel
theorem dX0_payMortgages_58 : decode cX0_payMortgages 58 = .ok (.aload_n 0, 1) := by decide +kernel
theorem dX0_payMortgages_59 : decode cX0_payMortgages 59 = .ok (.getfield 93, 3) := by decide +kernel
theorem dX0_payMortgages_62 : decode cX0_payMortgages 62 = .ok (.bipush 13, 2) := by decide +kernel
theorem dX0_payMortgages_64 : decode cX0_payMortgages 64 = .ok (.idiv, 1) := by decide +kernel
theorem dX0_payMortgages_65 : decode cX0_payMortgages 65 = .ok (.iastore, 1) := by decide +kernel
theorem dX0_payMortgages_66 : decode cX0_payMortgages 66 = .ok (.aload_n 0, 1) := by decide +kernel
theorem dX0_payMortgages_67 : decode cX0_payMortgages 67 = .ok (.getfield 21, 3) := by decide +kernel
theorem dX0_payMortgages_70 : decode cX0_payMortgages 70 = .ok (.getfield 201, 3) := by decide +kernel
theorem dX0_payMortgages_73 : decode cX0_payMortgages 73 = .ok (.iload_n 1, 1) := by decide +kernel
theorem dX0_payMortgages_74 : decode cX0_payMortgages 74 = .ok (.iconst 0, 1) := by decide +kernel
theorem dX0_payMortgages_75 : decode cX0_payMortgages 75 = .ok (.iastore, 1) := by decide +kernel
theorem dX0_payMortgages_76 : decode cX0_payMortgages 76 = .ok (.goto 24, 3) := by decide +kernel
theorem dX0_payMortgages_26 : decode cX0_payMortgages 26 = .ok (.goto 74, 3) := by decide +kernel
theorem dX0_passWeek_44 : decode cX0_passWeek 44 = .ok (.aload_n 0, 1) := by decide +kernel
theorem dX0_passWeek_45 : decode cX0_passWeek 45 = .ok (.getfield 97, 3) := by decide +kernel
theorem dX0_passWeek_48 : decode cX0_passWeek 48 = .ok (.ifCond .eq 7, 3) := by decide +kernel
theorem dX0_passWeek_51 : decode cX0_passWeek 51 = .ok (.aload_n 0, 1) := by decide +kernel
theorem dX0_passWeek_52 : decode cX0_passWeek 52 = .ok (.invokevirtual 145, 3) := by decide +kernel
theorem dX0_tellWrits_0 : decode cX0_tellWrits 0 = .ok (.iconst 0, 1) := by decide +kernel
theorem dX0_tellWrits_1 : decode cX0_tellWrits 1 = .ok (.istore_n 1, 1) := by decide +kernel
theorem dX0_tellWrits_2 : decode cX0_tellWrits 2 = .ok (.iload_n 1, 1) := by decide +kernel
theorem dX0_tellWrits_3 : decode cX0_tellWrits 3 = .ok (.aload_n 0, 1) := by decide +kernel
theorem dX0_tellWrits_4 : decode cX0_tellWrits 4 = .ok (.getfield 21, 3) := by decide +kernel
theorem dX0_tellWrits_7 : decode cX0_tellWrits 7 = .ok (.getfield 171, 3) := by decide +kernel
theorem dX0_tellWrits_10 : decode cX0_tellWrits 10 = .ok (.if_icmp .ge 75, 3) := by decide +kernel
theorem dX0_tellWrits_85 : decode cX0_tellWrits 85 = .ok (.return_, 1) := by decide +kernel
theorem dX0_tellWrits_13 : decode cX0_tellWrits 13 = .ok (.aload_n 0, 1) := by decide +kernel
theorem dX0_tellWrits_14 : decode cX0_tellWrits 14 = .ok (.getfield 21, 3) := by decide +kernel
theorem dX0_tellWrits_17 : decode cX0_tellWrits 17 = .ok (.getfield 124, 3) := by decide +kernel
theorem dX0_tellWrits_20 : decode cX0_tellWrits 20 = .ok (.iload_n 1, 1) := by decide +kernel
theorem dX0_tellWrits_21 : decode cX0_tellWrits 21 = .ok (.iaload, 1) := by decide +kernel
theorem dX0_tellWrits_22 : decode cX0_tellWrits 22 = .ok (.iconst (-1), 1) := by decide +kernel
theorem dX0_tellWrits_23 : decode cX0_tellWrits 23 = .ok (.if_icmp .eq 56, 3) := by decide +kernel
theorem dX0_tellWrits_79 : decode cX0_tellWrits 79 = .ok (.iinc 1 1, 3) := by decide +kernel
theorem dX0_tellWrits_82 : decode cX0_tellWrits 82 = .ok (.goto (-80), 3) := by decide +kernel
theorem dX0_tellWrits_26 : decode cX0_tellWrits 26 = .ok (.aload_n 0, 1) := by decide +kernel
theorem dX0_tellWrits_27 : decode cX0_tellWrits 27 = .ok (.getfield 21, 3) := by decide +kernel
theorem dX0_tellWrits_30 : decode cX0_tellWrits 30 = .ok (.getfield 188, 3) := by decide +kernel
theorem dX0_tellWrits_33 : decode cX0_tellWrits 33 = .ok (.iload_n 1, 1) := by decide +kernel
theorem dX0_tellWrits_34 : decode cX0_tellWrits 34 = .ok (.iaload, 1) := by decide +kernel
theorem dX0_tellWrits_35 : decode cX0_tellWrits 35 = .ok (.ifCond .le 44, 3) := by decide +kernel
theorem dX0_tellWrits_38 : decode cX0_tellWrits 38 = .ok (.aload_n 0, 1) := by decide +kernel
theorem dX0_tellWrits_39 : decode cX0_tellWrits 39 = .ok (.getfield 28, 3) := by decide +kernel
theorem dX0_tellWrits_42 : decode cX0_tellWrits 42 = .ok (.iload_n 1, 1) := by decide +kernel
theorem dX0_tellWrits_43 : decode cX0_tellWrits 43 = .ok (.invokevirtual 225, 3) := by decide +kernel
theorem dX0_tellWrits_46 : decode cX0_tellWrits 46 = .ok (.iconst (-1), 1) := by decide +kernel
theorem dX0_tellWrits_47 : decode cX0_tellWrits 47 = .ok (.if_icmp .ne 32, 3) := by decide +kernel
theorem dX0_tellWrits_50 : decode cX0_tellWrits 50 = .ok (.aload_n 0, 1) := by decide +kernel
theorem dX0_tellWrits_51 : decode cX0_tellWrits 51 = .ok (.getfield 28, 3) := by decide +kernel
theorem dX0_tellWrits_54 : decode cX0_tellWrits 54 = .ok (.iload_n 1, 1) := by decide +kernel
theorem dX0_tellWrits_55 : decode cX0_tellWrits 55 = .ok (.aload_n 0, 1) := by decide +kernel
theorem dX0_tellWrits_56 : decode cX0_tellWrits 56 = .ok (.getfield 21, 3) := by decide +kernel
theorem dX0_tellWrits_59 : decode cX0_tellWrits 59 = .ok (.getfield 124, 3) := by decide +kernel
theorem dX0_tellWrits_62 : decode cX0_tellWrits 62 = .ok (.iload_n 1, 1) := by decide +kernel
theorem dX0_tellWrits_63 : decode cX0_tellWrits 63 = .ok (.iaload, 1) := by decide +kernel
theorem dX0_tellWrits_64 : decode cX0_tellWrits 64 = .ok (.aload_n 0, 1) := by decide +kernel
theorem dX0_tellWrits_65 : decode cX0_tellWrits 65 = .ok (.getfield 42, 3) := by decide +kernel
theorem dX0_tellWrits_68 : decode cX0_tellWrits 68 = .ok (.iconst 0, 1) := by decide +kernel
theorem dX0_tellWrits_69 : decode cX0_tellWrits 69 = .ok (.invokevirtual 228, 3) := by decide +kernel
theorem dX0_tellWrits_72 : decode cX0_tellWrits 72 = .ok (.aload_n 0, 1) := by decide +kernel
theorem dX0_tellWrits_73 : decode cX0_tellWrits 73 = .ok (.getfield 93, 3) := by decide +kernel
theorem dX0_tellWrits_76 : decode cX0_tellWrits 76 = .ok (.invokevirtual 231, 3) := by decide +kernel
theorem dX0_passWeek_10 : decode cX0_passWeek 10 = .ok (.return_, 1) := by decide +kernel
theorem dX0_settle_0 : decode cX0_settle 0 = .ok (.aload_n 0, 1) := by decide +kernel
theorem dX0_settle_1 : decode cX0_settle 1 = .ok (.getfield 21, 3) := by decide +kernel
theorem dX0_settle_4 : decode cX0_settle 4 = .ok (.getfield 124, 3) := by decide +kernel
theorem dX0_settle_7 : decode cX0_settle 7 = .ok (.iload_n 2, 1) := by decide +kernel
theorem dX0_settle_8 : decode cX0_settle 8 = .ok (.iload_n 1, 1) := by decide +kernel
theorem dX0_settle_9 : decode cX0_settle 9 = .ok (.iastore, 1) := by decide +kernel
theorem dX0_settle_10 : decode cX0_settle 10 = .ok (.aload_n 0, 1) := by decide +kernel
theorem dX0_settle_11 : decode cX0_settle 11 = .ok (.getfield 21, 3) := by decide +kernel
theorem dX0_settle_14 : decode cX0_settle 14 = .ok (.getfield 127, 3) := by decide +kernel
theorem dX0_settle_17 : decode cX0_settle 17 = .ok (.iload_n 2, 1) := by decide +kernel
theorem dX0_settle_18 : decode cX0_settle 18 = .ok (.iload_n 3, 1) := by decide +kernel
theorem dX0_settle_19 : decode cX0_settle 19 = .ok (.iastore, 1) := by decide +kernel
theorem dX0_settle_20 : decode cX0_settle 20 = .ok (.aload_n 0, 1) := by decide +kernel
theorem dX0_settle_21 : decode cX0_settle 21 = .ok (.getfield 12, 3) := by decide +kernel
theorem dX0_settle_24 : decode cX0_settle 24 = .ok (.getfield 130, 3) := by decide +kernel
theorem dX0_settle_27 : decode cX0_settle 27 = .ok (.iload_n 1, 1) := by decide +kernel
theorem dX0_settle_28 : decode cX0_settle 28 = .ok (.iconst (-1), 1) := by decide +kernel
theorem dX0_settle_29 : decode cX0_settle 29 = .ok (.iastore, 1) := by decide +kernel
theorem dX0_settle_30 : decode cX0_settle 30 = .ok (.return_, 1) := by decide +kernel
theorem dX0_tellCrops_0 : decode cX0_tellCrops 0 = .ok (.aload_n 0, 1) := by decide +kernel
theorem dX0_tellCrops_1 : decode cX0_tellCrops 1 = .ok (.iconst 1, 1) := by decide +kernel
theorem dX0_tellCrops_2 : decode cX0_tellCrops 2 = .ok (.putfield 97, 3) := by decide +kernel
theorem dX0_tellCrops_5 : decode cX0_tellCrops 5 = .ok (.aload_n 0, 1) := by decide +kernel
theorem dX0_tellCrops_6 : decode cX0_tellCrops 6 = .ok (.iload_n 1, 1) := by decide +kernel
theorem dX0_tellCrops_7 : decode cX0_tellCrops 7 = .ok (.putfield 107, 3) := by decide +kernel
theorem dX0_tellCrops_10 : decode cX0_tellCrops 10 = .ok (.aload_n 0, 1) := by decide +kernel
theorem dX0_tellCrops_11 : decode cX0_tellCrops 11 = .ok (.iload_n 2, 1) := by decide +kernel
theorem dX0_tellCrops_12 : decode cX0_tellCrops 12 = .ok (.putfield 110, 3) := by decide +kernel
theorem dX0_tellCrops_15 : decode cX0_tellCrops 15 = .ok (.return_, 1) := by decide +kernel
def ms_X0_putOut : List (Nat × Nat) := [(0, 12), (164, 0), (166, 0), (167, 0), (346, 0), (347, 0)]
def po_X0_putOut (kp : Nat → Nat) (L : List Nat) (f0 : Nat → va_E) (h0 : Nat) (u1 : Int32) (u2 : Int32) : Option Value → (Nat → va_E) → Prop := fun v f => v = none ∧ FM kp L ms_X0_putOut f0 f
set_option maxHeartbeats 4000000 in
set_option maxRecDepth 100000 in
theorem c_X0_putOut (l : Launch) (G : va_G) (cI cJ cZ cD cR cT : ClassId) (kp : Nat → Nat) (L : List Nat) (f0 : Nat → va_E) (hTH : TH cI cJ cZ cD cR cT kp L f0) (sz : Nat) (h0 : Nat) (u1 : Int32) (u2 : Int32) (rh0 : RK kp L h0 0) (pu1 : (0 : Int) ≤ u1.toInt ∧ u1.toInt ≤ 39) (pu2 : (0 : Int) ≤ u2.toInt ∧ u2.toInt ≤ 39) : Met l yX0_putOut (Cond.code yX0_putOut cX0_putOut 3 none :: wTab) ({ frames := 2, cells := 0, slots := 0, locals := 62 }) (va_Pc [.ref h0, .int u1, .int u2] (PreW G (tys6 cI cJ cZ cD cR cT) (va_pl L f0) sz)) (QT (po_X0_putOut kp L f0 h0 u1 u2) G cI cJ cZ cD cR cT (va_A (va_pl L f0) sz) kp L) 0 0 (va_A (va_pl L f0) sz) := by
  refine metT (by decide) (Nat.le_of_ble_eq_true rfl) hTH ?_
  intro p e s m below meth c A ls E hW hl
  obtain ⟨hx, hb, -, hml, hown, hts, -, -, -⟩ := id E
  have hF : FM kp L ms_X0_putOut f0 f0 := FM.rf
  have hl : lv_has ls 3 [(0, .ref h0), (1, .int u1), (2, .int u2)] := hl
  refine lv_aload_n hx hb dX0_putOut_0 rfl (lv_at hl 0 rfl) ?_
  refine lv_dup hx hb dX0_putOut_1 rfl ?_
  refine fg_RX0_100 E hW rh0 dX0_putOut_2 (fun y1 m2 => ?_)
  refine lv_iconst (v := 1) hx hb dX0_putOut_5 (by decide) ?_
  refine u_iadd hx hb dX0_putOut_6 (fun x4 => ?_)
  refine fp_RX0_100 E hW rh0 dX0_putOut_7 (fun f5 H locs e6 n7 g8 hW => ?_)
  have hF := FM.tr hF g8 rfl
  refine lv_aload_n hx hb dX0_putOut_10 rfl (lv_at hl 0 rfl) ?_
  refine fg_RX0_21 E hW rh0 dX0_putOut_11 (fun a9 m10 r11 => ?_)
  refine fg_RX0_124 E hW r11 dX0_putOut_14 (fun a12 m13 r14 => ?_)
  refine lv_iload_n hx hb dX0_putOut_17 rfl (lv_at hl 1 rfl) ?_
  refine lv_iconst (v := (-1)) hx hb dX0_putOut_18 (by decide) ?_
  refine gs_164 E hW r14 ⟨by omega, by omega⟩ (by decide) dX0_putOut_19 (fun f15 H locs e16 n17 g18 hW => ?_)
  have hF := FM.tr hF g18 rfl
  refine lv_aload_n hx hb dX0_putOut_20 rfl (lv_at hl 0 rfl) ?_
  refine fg_RX0_21 E hW rh0 dX0_putOut_21 (fun a19 m20 r21 => ?_)
  obtain rfl : a9 = a19 := (((fm_R g18 rh0 rfl).trans m10)).symm.trans m20
  refine fg_RX0_127 E hW r11 dX0_putOut_24 (fun a22 m23 r24 => ?_)
  refine lv_iload_n hx hb dX0_putOut_27 rfl (lv_at hl 1 rfl) ?_
  refine lv_iconst (v := 0) hx hb dX0_putOut_28 (by decide) ?_
  refine gs_166 E hW r24 ⟨by omega, by omega⟩ dX0_putOut_29 (fun f25 H locs e26 n27 g28 hW => ?_)
  have hF := FM.tr hF g28 rfl
  refine lv_aload_n hx hb dX0_putOut_30 rfl (lv_at hl 0 rfl) ?_
  refine fg_RX0_21 E hW rh0 dX0_putOut_31 (fun a29 m30 r31 => ?_)
  obtain rfl : a9 = a29 := (((fm_R g28 rh0 rfl).trans m20)).symm.trans m30
  refine fg_RX0_256 E hW r11 dX0_putOut_34 (fun a32 m33 r34 => ?_)
  refine lv_iload_n hx hb dX0_putOut_37 rfl (lv_at hl 1 rfl) ?_
  refine lv_iconst (v := 1) hx hb dX0_putOut_38 (by decide) ?_
  refine gs_167 E hW r34 ⟨by omega, by omega⟩ dX0_putOut_39 (fun f35 H locs e36 n37 g38 hW => ?_)
  have hF := FM.tr hF g38 rfl
  refine lv_aload_n hx hb dX0_putOut_40 rfl (lv_at hl 0 rfl) ?_
  refine fg_RX0_12 E hW rh0 dX0_putOut_41 (fun a39 m40 r41 => ?_)
  refine fg_RX0_182 E hW r41 dX0_putOut_44 (fun a42 m43 r44 => ?_)
  refine lv_iload_n hx hb dX0_putOut_47 rfl (lv_at hl 2 rfl) ?_
  refine gl_346 E hW r44 ⟨by omega, by omega⟩ dX0_putOut_48 (fun y45 m46 => ?_)
  have J89 : ∀ (f81 : Nat → va_E) (m82 : oR (f81 a39) 6 = a42) (m83 : oR (f81 a9) 4 = a12) (m84 : oR (f81 a9) 6 = a22) (m85 : oR (f81 a9) 7 = a32) (m86 : oR (f81 h0) 0 = a39) (m87 : oR (f81 h0) 1 = a9) (m88 : oI (f81 h0) 12 = x4) (H : Heap) (locs : List Loc) (ls : Array Slot), WS G cI cJ cZ cD cR cT A kp L f81 s H locs → FM kp L ms_X0_putOut f0 f81 → lv_has ls 3 [(0, .ref h0), (1, .int u1), (2, .int u2)] → W p l e ({ frames := 2, cells := 0, slots := 0, locals := 62 }) s m ([.ref h0, .int u1, .int u2] : List Value).toArray below meth c H locs 0 0 (MQ below (QT (po_X0_putOut kp L f0 h0 u1 u2) G cI cJ cZ cD cR cT A kp L) ([.ref h0, .int u1, .int u2] : List Value).toArray s 0 0 A) (F0 m 86 ls []) := by
    intro f81 m82 m83 m84 m85 m86 m87 m88 H locs ls hW hF hl
    exact e_V E hW rfl ⟨rfl, hF⟩ dX0_putOut_86
  refine q_if_ne (tgt := 86) hx hb dX0_putOut_49 (by decide) rfl (fun c90 => ?_) (fun c90 => ?_)
  · exact J89 f35 m43 ((fm_R g38 r11 rfl).trans ((fm_R g28 r11 rfl).trans ((fm_R g18 r11 rfl).trans m13))) ((fm_R g38 r11 rfl).trans ((fm_R g28 r11 rfl).trans m23)) ((fm_R g38 r11 rfl).trans m33) m40 ((fm_R g38 rh0 rfl).trans m30) ((fm_I g38 rh0 rfl).trans ((fm_I g28 rh0 rfl).trans ((fm_I g18 rh0 rfl).trans e6))) _ _ _ hW hF (lv_sub hl [0, 1, 2] rfl)
  · refine lv_aload_n hx hb dX0_putOut_52 rfl (lv_at hl 0 rfl) ?_
    refine fg_RX0_21 E hW rh0 dX0_putOut_53 (fun a91 m92 r93 => ?_)
    obtain rfl : a9 = a91 := (((fm_R g38 rh0 rfl).trans m30)).symm.trans m92
    refine lv_iload_n hx hb dX0_putOut_56 rfl (lv_at hl 2 rfl) ?_
    refine t_callV (As := [.int u2]) (rest := []) E hW (c_X1_isHeldBy l G cI cJ cZ cD cR cT kp L f35 hW.2.2.2 _ a9 u2 r11 (by omega)) r11 (by decide) rfl wk_X1_isHeldBy tw_728 rfl ⟨Nat.le_of_ble_eq_true rfl, Nat.le_of_ble_eq_true rfl⟩ ⟨rfl, rfl⟩ hl.1 rfl (Nat.le_of_ble_eq_true rfl) dX0_putOut_57 ⟨Nat.le_of_ble_eq_true rfl, Nat.le_of_ble_eq_true rfl⟩ (fun v94 f95 H locs q96 hW => ?_)
    obtain ⟨⟨x98, rfl, p99⟩, g97⟩ := q96
    have hF := FM.tr hF g97 rfl
    refine q_if_ne (tgt := 86) hx hb dX0_putOut_60 (by decide) rfl (fun c100 => ?_) (fun c100 => ?_)
    · exact J89 f95 ((fm_R g97 r41 rfl).trans m43) ((fm_R g97 r11 rfl).trans ((fm_R g38 r11 rfl).trans ((fm_R g28 r11 rfl).trans ((fm_R g18 r11 rfl).trans m13)))) ((fm_R g97 r11 rfl).trans ((fm_R g38 r11 rfl).trans ((fm_R g28 r11 rfl).trans m23))) ((fm_R g97 r11 rfl).trans ((fm_R g38 r11 rfl).trans m33)) ((fm_R g97 rh0 rfl).trans m40) ((fm_R g97 rh0 rfl).trans m92) ((fm_I g97 rh0 rfl).trans ((fm_I g38 rh0 rfl).trans ((fm_I g28 rh0 rfl).trans ((fm_I g18 rh0 rfl).trans e6)))) _ _ _ hW hF (lv_sub hl [0, 1, 2] rfl)
    · refine lv_aload_n hx hb dX0_putOut_63 rfl (lv_at hl 0 rfl) ?_
      refine fg_RX0_12 E hW rh0 dX0_putOut_64 (fun a101 m102 r103 => ?_)
      obtain rfl : a39 = a101 := (((fm_R g97 rh0 rfl).trans m40)).symm.trans m102
      refine fg_RX0_182 E hW r41 dX0_putOut_67 (fun a104 m105 r106 => ?_)
      obtain rfl : a42 = a104 := (((fm_R g97 r41 rfl).trans m43)).symm.trans m105
      refine lv_iload_n hx hb dX0_putOut_70 rfl (lv_at hl 2 rfl) ?_
      refine lv_iconst (v := 1) hx hb dX0_putOut_71 (by decide) ?_
      refine gs_346 E hW r44 ⟨by omega, by omega⟩ dX0_putOut_72 (fun f107 H locs e108 n109 g110 hW => ?_)
      have hF := FM.tr hF g110 rfl
      refine lv_aload_n hx hb dX0_putOut_73 rfl (lv_at hl 0 rfl) ?_
      refine fg_RX0_12 E hW rh0 dX0_putOut_74 (fun a111 m112 r113 => ?_)
      obtain rfl : a39 = a111 := (((fm_R g110 rh0 rfl).trans m102)).symm.trans m112
      refine fg_RX0_130 E hW r41 dX0_putOut_77 (fun a114 m115 r116 => ?_)
      refine lv_iload_n hx hb dX0_putOut_80 rfl (lv_at hl 2 rfl) ?_
      refine lv_aload_n hx hb dX0_putOut_81 rfl (lv_at hl 0 rfl) ?_
      refine fg_RX0_93 E hW rh0 dX0_putOut_82 (fun y117 m118 b119 => ?_)
      refine gs_347 E hW r116 ⟨by omega, by omega⟩ dX0_putOut_85 (fun f120 H locs e121 n122 g123 hW => ?_)
      have hF := FM.tr hF g123 rfl
      exact J89 f120 ((fm_R g123 r41 rfl).trans ((fm_R g110 r41 rfl).trans m105)) ((fm_R g123 r11 rfl).trans ((fm_R g110 r11 rfl).trans ((fm_R g97 r11 rfl).trans ((fm_R g38 r11 rfl).trans ((fm_R g28 r11 rfl).trans ((fm_R g18 r11 rfl).trans m13)))))) ((fm_R g123 r11 rfl).trans ((fm_R g110 r11 rfl).trans ((fm_R g97 r11 rfl).trans ((fm_R g38 r11 rfl).trans ((fm_R g28 r11 rfl).trans m23))))) ((fm_R g123 r11 rfl).trans ((fm_R g110 r11 rfl).trans ((fm_R g97 r11 rfl).trans ((fm_R g38 r11 rfl).trans m33)))) ((fm_R g123 rh0 rfl).trans m112) ((fm_R g123 rh0 rfl).trans ((fm_R g110 rh0 rfl).trans ((fm_R g97 rh0 rfl).trans m92))) ((fm_I g123 rh0 rfl).trans ((fm_I g110 rh0 rfl).trans ((fm_I g97 rh0 rfl).trans ((fm_I g38 rh0 rfl).trans ((fm_I g28 rh0 rfl).trans ((fm_I g18 rh0 rfl).trans e6)))))) _ _ _ hW hF (lv_sub hl [0, 1, 2] rfl)
def ms_X0_advanceWrit : List (Nat × Nat) := [(0, 12), (164, 0), (166, 0), (167, 0), (346, 0), (347, 0), (703, 0), (704, 0), (706, 0)]
def po_X0_advanceWrit (kp : Nat → Nat) (L : List Nat) (f0 : Nat → va_E) (h0 : Nat) (u1 : Int32) : Option Value → (Nat → va_E) → Prop := fun v f => v = none ∧ FM kp L ms_X0_advanceWrit f0 f
set_option maxHeartbeats 4000000 in
set_option maxRecDepth 100000 in
theorem c_X0_advanceWrit (l : Launch) (G : va_G) (cI cJ cZ cD cR cT : ClassId) (kp : Nat → Nat) (L : List Nat) (f0 : Nat → va_E) (hTH : TH cI cJ cZ cD cR cT kp L f0) (sz : Nat) (h0 : Nat) (u1 : Int32) (rh0 : RK kp L h0 0) (pu1 : (0 : Int) ≤ u1.toInt ∧ u1.toInt ≤ 59) : Met l yX0_advanceWrit (Cond.code yX0_advanceWrit cX0_advanceWrit 3 none :: wTab) ({ frames := 3, cells := 0, slots := 0, locals := 87 }) (va_Pc [.ref h0, .int u1] (PreW G (tys6 cI cJ cZ cD cR cT) (va_pl L f0) sz)) (QT (po_X0_advanceWrit kp L f0 h0 u1) G cI cJ cZ cD cR cT (va_A (va_pl L f0) sz) kp L) 0 0 (va_A (va_pl L f0) sz) := by
  refine metT (by decide) (Nat.le_of_ble_eq_true rfl) hTH ?_
  intro p e s m below meth c A ls E hW hl
  obtain ⟨hx, hb, -, hml, hown, hts, -, -, -⟩ := id E
  have hF : FM kp L ms_X0_advanceWrit f0 f0 := FM.rf
  have hl : lv_has ls 3 [(0, .ref h0), (1, .int u1)] := hl
  refine lv_aload_n hx hb dX0_advanceWrit_0 rfl (lv_at hl 0 rfl) ?_
  refine fg_RX0_28 E hW rh0 dX0_advanceWrit_1 (fun a1 m2 r3 => ?_)
  refine fg_RX0_235 E hW r3 dX0_advanceWrit_4 (fun a4 m5 r6 => ?_)
  refine lv_iload_n hx hb dX0_advanceWrit_7 rfl (lv_at hl 1 rfl) ?_
  refine gl_701 E hW r6 ⟨by omega, by omega⟩ dX0_advanceWrit_8 (fun y7 m8 b9 => ?_)
  refine lv_istore_n (lv' := [(2, .int y7), (0, .ref h0), (1, .int u1)]) hx hb dX0_advanceWrit_9 rfl hl (by decide) rfl (fun ls hl => ?_)
  refine lv_aload_n hx hb dX0_advanceWrit_10 rfl (lv_at hl 1 rfl) ?_
  refine fg_RX0_21 E hW rh0 dX0_advanceWrit_11 (fun a10 m11 r12 => ?_)
  refine fg_RX0_188 E hW r12 dX0_advanceWrit_14 (fun a13 m14 r15 => ?_)
  refine lv_iload_n hx hb dX0_advanceWrit_17 rfl (lv_at hl 0 rfl) ?_
  refine gl_165 E hW r15 ⟨by omega, by omega⟩ dX0_advanceWrit_18 (fun y16 m17 => ?_)
  refine q_if_eq (tgt := 43) hx hb dX0_advanceWrit_19 (by decide) rfl (fun c19 => ?_) (fun c19 => ?_)
  · refine lv_aload_n hx hb dX0_advanceWrit_43 rfl (lv_at hl 1 rfl) ?_
    refine fg_RX0_28 E hW rh0 dX0_advanceWrit_44 (fun a20 m21 r22 => ?_)
    obtain rfl : a1 = a20 := (m2).symm.trans m21
    refine fg_RX0_151 E hW r3 dX0_advanceWrit_47 (fun a23 m24 r25 => ?_)
    refine lv_iload_n hx hb dX0_advanceWrit_50 rfl (lv_at hl 2 rfl) ?_
    refine lv_iconst (v := 0) hx hb dX0_advanceWrit_51 (by decide) ?_
    refine gs_706 E hW r25 ⟨by omega, by omega⟩ dX0_advanceWrit_52 (fun f26 H locs e27 n28 g29 hW => ?_)
    have hF := FM.tr hF g29 rfl
    exact e_V E hW rfl ⟨rfl, hF⟩ dX0_advanceWrit_53
  · refine lv_aload_n hx hb dX0_advanceWrit_22 rfl (lv_at hl 1 rfl) ?_
    refine fg_RX0_21 E hW rh0 dX0_advanceWrit_23 (fun a30 m31 r32 => ?_)
    obtain rfl : a10 = a30 := (m11).symm.trans m31
    refine fg_RX0_124 E hW r12 dX0_advanceWrit_26 (fun a33 m34 r35 => ?_)
    refine lv_iload_n hx hb dX0_advanceWrit_29 rfl (lv_at hl 0 rfl) ?_
    refine gl_164 E hW r35 ⟨by omega, by omega⟩ dX0_advanceWrit_30 (fun y36 m37 b38 => ?_)
    refine lv_aload_n hx hb dX0_advanceWrit_31 rfl (lv_at hl 1 rfl) ?_
    refine fg_RX0_28 E hW rh0 dX0_advanceWrit_32 (fun a39 m40 r41 => ?_)
    obtain rfl : a1 = a39 := (m2).symm.trans m40
    refine fg_RX0_238 E hW r3 dX0_advanceWrit_35 (fun a42 m43 r44 => ?_)
    refine lv_iload_n hx hb dX0_advanceWrit_38 rfl (lv_at hl 2 rfl) ?_
    refine gl_702 E hW r44 ⟨by omega, by omega⟩ dX0_advanceWrit_39 (fun y45 m46 b47 => ?_)
    refine q_icmp_eq (tgt := 54) hx hb dX0_advanceWrit_40 (by decide) rfl rfl (fun c48 => ?_) (fun c48 => ?_)
    · refine lv_aload_n hx hb dX0_advanceWrit_54 rfl (lv_at hl 1 rfl) ?_
      refine fg_RX0_28 E hW rh0 dX0_advanceWrit_55 (fun a49 m50 r51 => ?_)
      obtain rfl : a1 = a49 := (m40).symm.trans m50
      refine fg_RX0_239 E hW r3 dX0_advanceWrit_58 (fun a52 m53 r54 => ?_)
      refine lv_iload_n hx hb dX0_advanceWrit_61 rfl (lv_at hl 2 rfl) ?_
      refine gl_705 E hW r54 ⟨by omega, by omega⟩ dX0_advanceWrit_62 (fun y55 m56 => ?_)
      refine lv_aload_n hx hb dX0_advanceWrit_63 rfl (lv_at hl 1 rfl) ?_
      refine fg_RX0_93 E hW rh0 dX0_advanceWrit_64 (fun y58 m59 b60 => ?_)
      refine q_icmp_eq (tgt := 85) hx hb dX0_advanceWrit_67 (by decide) rfl rfl (fun c61 => ?_) (fun c61 => ?_)
      · exact e_V E hW rfl ⟨rfl, hF⟩ dX0_advanceWrit_85
      · refine lv_aload_n hx hb dX0_advanceWrit_70 rfl (lv_at hl 1 rfl) ?_
        refine fg_RX0_28 E hW rh0 dX0_advanceWrit_71 (fun a62 m63 r64 => ?_)
        obtain rfl : a1 = a62 := (m50).symm.trans m63
        refine lv_iload_n hx hb dX0_advanceWrit_74 rfl (lv_at hl 0 rfl) ?_
        refine lv_aload_n hx hb dX0_advanceWrit_75 rfl (lv_at hl 1 rfl) ?_
        refine fg_RX0_93 E hW rh0 dX0_advanceWrit_76 (fun y65 m66 b67 => ?_)
        obtain rfl : y58 = y65 := (m59).symm.trans m66
        refine t_callV (As := [.int y7, .int y58]) (rest := []) E hW (c_X10_isGuarded l G cI cJ cZ cD cR cT kp L f0 hW.2.2.2 _ a1 y7 y58 r3 (by omega) (by omega)) r3 (by decide) rfl wk_X10_isGuarded tw_1150 rfl ⟨Nat.le_of_ble_eq_true rfl, Nat.le_of_ble_eq_true rfl⟩ ⟨rfl, rfl⟩ hl.1 rfl (Nat.le_of_ble_eq_true rfl) dX0_advanceWrit_79 ⟨Nat.le_of_ble_eq_true rfl, Nat.le_of_ble_eq_true rfl⟩ (fun v68 f69 H locs q70 hW => ?_)
        obtain ⟨⟨x72, rfl, p73⟩, g71⟩ := q70
        have hF := FM.tr hF g71 rfl
        refine q_if_eq (tgt := 86) hx hb dX0_advanceWrit_82 (by decide) rfl (fun c74 => ?_) (fun c74 => ?_)
        · refine lv_aload_n hx hb dX0_advanceWrit_86 rfl (lv_at hl 1 rfl) ?_
          refine fg_RX0_28 E hW rh0 dX0_advanceWrit_87 (fun a75 m76 r77 => ?_)
          obtain rfl : a1 = a75 := (((fm_R g71 rh0 rfl).trans m63)).symm.trans m76
          refine fg_RX0_246 E hW r3 dX0_advanceWrit_90 (fun a78 m79 r80 => ?_)
          refine lv_iload_n hx hb dX0_advanceWrit_93 rfl (lv_at hl 2 rfl) ?_
          refine lv_dup2_11 hx hb dX0_advanceWrit_94 rfl rfl ?_
          refine gl_704 E hW r80 ⟨by omega, by omega⟩ dX0_advanceWrit_95 (fun y81 m82 => ?_)
          refine lv_iconst (v := 1) hx hb dX0_advanceWrit_96 (by decide) ?_
          refine u_isub hx hb dX0_advanceWrit_97 (fun x84 => ?_)
          refine gs_704 E hW r80 ⟨by omega, by omega⟩ dX0_advanceWrit_98 (fun f85 H locs e86 n87 g88 hW => ?_)
          have hF := FM.tr hF g88 rfl
          refine lv_aload_n hx hb dX0_advanceWrit_99 rfl (lv_at hl 1 rfl) ?_
          refine fg_RX0_28 E hW rh0 dX0_advanceWrit_100 (fun a89 m90 r91 => ?_)
          obtain rfl : a1 = a89 := (((fm_R g88 rh0 rfl).trans m76)).symm.trans m90
          refine fg_RX0_246 E hW r3 dX0_advanceWrit_103 (fun a92 m93 r94 => ?_)
          obtain rfl : a78 = a92 := (((fm_R g88 r3 rfl).trans m79)).symm.trans m93
          refine lv_iload_n hx hb dX0_advanceWrit_106 rfl (lv_at hl 2 rfl) ?_
          refine gl_704 E hW r80 ⟨by omega, by omega⟩ dX0_advanceWrit_107 (fun y95 m96 => ?_)
          obtain rfl : x84 = y95 := ((show aI (f85 a78) (u1 : Int32).toNatClampNeg = x84 from by rw [e86]; exact up_s)).symm.trans m96
          refine q_if_le (tgt := 112) hx hb dX0_advanceWrit_108 (by decide) rfl (fun c98 => ?_) (fun c98 => ?_)
          · refine lv_aload_n hx hb dX0_advanceWrit_112 rfl (lv_at hl 1 rfl) ?_
            refine fg_RX0_28 E hW rh0 dX0_advanceWrit_113 (fun a99 m100 r101 => ?_)
            obtain rfl : a1 = a99 := (m90).symm.trans m100
            refine fg_RX0_249 E hW r3 dX0_advanceWrit_116 (fun a102 m103 r104 => ?_)
            refine lv_iload_n hx hb dX0_advanceWrit_119 rfl (lv_at hl 2 rfl) ?_
            refine lv_dup2_11 hx hb dX0_advanceWrit_120 rfl rfl ?_
            refine gl_703 E hW r104 ⟨by omega, by omega⟩ dX0_advanceWrit_121 (fun y105 m106 => ?_)
            refine lv_iconst (v := 1) hx hb dX0_advanceWrit_122 (by decide) ?_
            refine u_iadd hx hb dX0_advanceWrit_123 (fun x108 => ?_)
            refine gs_703 E hW r104 ⟨by omega, by omega⟩ dX0_advanceWrit_124 (fun f109 H locs e110 n111 g112 hW => ?_)
            have hF := FM.tr hF g112 rfl
            refine lv_aload_n hx hb dX0_advanceWrit_125 rfl (lv_at hl 1 rfl) ?_
            refine fg_RX0_28 E hW rh0 dX0_advanceWrit_126 (fun a113 m114 r115 => ?_)
            obtain rfl : a1 = a113 := (((fm_R g112 rh0 rfl).trans m100)).symm.trans m114
            refine fg_RX0_249 E hW r3 dX0_advanceWrit_129 (fun a116 m117 r118 => ?_)
            obtain rfl : a102 = a116 := (((fm_R g112 r3 rfl).trans m103)).symm.trans m117
            refine lv_iload_n hx hb dX0_advanceWrit_132 rfl (lv_at hl 2 rfl) ?_
            refine gl_703 E hW r104 ⟨by omega, by omega⟩ dX0_advanceWrit_133 (fun y119 m120 => ?_)
            obtain rfl : x108 = y119 := ((show aI (f109 a102) (u1 : Int32).toNatClampNeg = x108 from by rw [e110]; exact up_s)).symm.trans m120
            refine lv_iconst (v := 3) hx hb dX0_advanceWrit_134 (by decide) ?_
            have J184 : ∀ (f173 : Nat → va_E) (m174 : oR (f173 a1) 1 = a4) (m175 : oR (f173 a1) 2 = a42) (m176 : oR (f173 a1) 3 = a102) (m177 : oR (f173 a1) 4 = a78) (m178 : oR (f173 a1) 5 = a52) (m179 : oR (f173 a10) 4 = a33) (m180 : oR (f173 a10) 5 = a13) (m181 : oR (f173 h0) 1 = a10) (m182 : oR (f173 h0) 2 = a1) (m183 : oI (f173 h0) 6 = y58) (H : Heap) (locs : List Loc) (ls : Array Slot), WS G cI cJ cZ cD cR cT A kp L f173 s H locs → FM kp L ms_X0_advanceWrit f0 f173 → lv_has ls 3 [(2, .int y7), (0, .ref h0), (1, .int u1)] → W p l e ({ frames := 3, cells := 0, slots := 0, locals := 87 }) s m ([.ref h0, .int u1] : List Value).toArray below meth c H locs 0 0 (MQ below (QT (po_X0_advanceWrit kp L f0 h0 u1) G cI cJ cZ cD cR cT A kp L) ([.ref h0, .int u1] : List Value).toArray s 0 0 A) (F0 m 190 ls []) := by
              intro f173 m174 m175 m176 m177 m178 m179 m180 m181 m182 m183 H locs ls hW hF hl
              clear c19 b38 b47 c48 p73 c74 c98
              exact e_V E hW rfl ⟨rfl, hF⟩ dX0_advanceWrit_190
            refine q_icmp_le (Y := 3) (tgt := 165) hx hb dX0_advanceWrit_135 (by decide) rfl rfl (fun c185 => ?_) (fun c185 => ?_)
            · refine lv_aload_n hx hb dX0_advanceWrit_165 rfl (lv_at hl 1 rfl) ?_
              refine fg_RX0_28 E hW rh0 dX0_advanceWrit_166 (fun a186 m187 r188 => ?_)
              obtain rfl : a1 = a186 := (m114).symm.trans m187
              refine fg_RX0_246 E hW r3 dX0_advanceWrit_169 (fun a189 m190 r191 => ?_)
              obtain rfl : a78 = a189 := (((fm_R g112 r3 rfl).trans m93)).symm.trans m190
              refine lv_iload_n hx hb dX0_advanceWrit_172 rfl (lv_at hl 2 rfl) ?_
              refine lv_aload_n hx hb dX0_advanceWrit_173 rfl (lv_at hl 1 rfl) ?_
              refine fg_RX0_42 E hW rh0 dX0_advanceWrit_174 (fun a192 m193 r194 => ?_)
              refine lv_aload_n hx hb dX0_advanceWrit_177 rfl (lv_at hl 1 rfl) ?_
              refine fg_RX0_28 E hW rh0 dX0_advanceWrit_178 (fun a195 m196 r197 => ?_)
              obtain rfl : a1 = a195 := (m187).symm.trans m196
              refine fg_RX0_249 E hW r3 dX0_advanceWrit_181 (fun a198 m199 r200 => ?_)
              obtain rfl : a102 = a198 := (m117).symm.trans m199
              refine lv_iload_n hx hb dX0_advanceWrit_184 rfl (lv_at hl 2 rfl) ?_
              refine gl_703 E hW r104 ⟨by omega, by omega⟩ dX0_advanceWrit_185 (fun y201 m202 => ?_)
              obtain rfl : x108 = y201 := (m120).symm.trans m202
              refine t_callV (As := [.int x108]) (rest := [.int u1, .ref a78]) E hW (c_X2_weeksOf l G cI cJ cZ cD cR cT kp L f109 hW.2.2.2 _ a192 x108 r194 (by omega)) r194 (by decide) rfl wk_X2_weeksOf tw_1144 rfl ⟨Nat.le_of_ble_eq_true rfl, Nat.le_of_ble_eq_true rfl⟩ ⟨rfl, rfl⟩ hl.1 rfl (Nat.le_of_ble_eq_true rfl) dX0_advanceWrit_186 ⟨Nat.le_of_ble_eq_true rfl, Nat.le_of_ble_eq_true rfl⟩ (fun v204 f205 H locs q206 hW => ?_)
              obtain ⟨⟨x208, rfl, p209⟩, g207⟩ := q206
              clear p209
              have hF := FM.tr hF g207 rfl
              refine gs_704 E hW r80 ⟨by omega, by omega⟩ dX0_advanceWrit_189 (fun f210 H locs e211 n212 g213 hW => ?_)
              have hF := FM.tr hF g213 rfl
              exact J184 f210 ((fm_R g213 r3 rfl).trans ((fm_R g207 r3 rfl).trans ((fm_R g112 r3 rfl).trans ((fm_R g88 r3 rfl).trans ((fm_R g71 r3 rfl).trans m5))))) ((fm_R g213 r3 rfl).trans ((fm_R g207 r3 rfl).trans ((fm_R g112 r3 rfl).trans ((fm_R g88 r3 rfl).trans ((fm_R g71 r3 rfl).trans m43))))) ((fm_R g213 r3 rfl).trans ((fm_R g207 r3 rfl).trans m199)) ((fm_R g213 r3 rfl).trans ((fm_R g207 r3 rfl).trans m190)) ((fm_R g213 r3 rfl).trans ((fm_R g207 r3 rfl).trans ((fm_R g112 r3 rfl).trans ((fm_R g88 r3 rfl).trans ((fm_R g71 r3 rfl).trans m53))))) ((fm_R g213 r12 rfl).trans ((fm_R g207 r12 rfl).trans ((fm_R g112 r12 rfl).trans ((fm_R g88 r12 rfl).trans ((fm_R g71 r12 rfl).trans m34))))) ((fm_R g213 r12 rfl).trans ((fm_R g207 r12 rfl).trans ((fm_R g112 r12 rfl).trans ((fm_R g88 r12 rfl).trans ((fm_R g71 r12 rfl).trans m14))))) ((fm_R g213 rh0 rfl).trans ((fm_R g207 rh0 rfl).trans ((fm_R g112 rh0 rfl).trans ((fm_R g88 rh0 rfl).trans ((fm_R g71 rh0 rfl).trans m31))))) ((fm_R g213 rh0 rfl).trans ((fm_R g207 rh0 rfl).trans m196)) ((fm_I g213 rh0 rfl).trans ((fm_I g207 rh0 rfl).trans ((fm_I g112 rh0 rfl).trans ((fm_I g88 rh0 rfl).trans ((fm_I g71 rh0 rfl).trans m66))))) _ _ _ hW hF (lv_sub hl [0, 1, 2] rfl)
            · refine lv_aload_n hx hb dX0_advanceWrit_138 rfl (lv_at hl 1 rfl) ?_
              refine fg_RX0_28 E hW rh0 dX0_advanceWrit_139 (fun a214 m215 r216 => ?_)
              obtain rfl : a1 = a214 := (m114).symm.trans m215
              refine fg_RX0_151 E hW r3 dX0_advanceWrit_142 (fun a217 m218 r219 => ?_)
              refine lv_iload_n hx hb dX0_advanceWrit_145 rfl (lv_at hl 2 rfl) ?_
              refine lv_iconst (v := 0) hx hb dX0_advanceWrit_146 (by decide) ?_
              refine gs_706 E hW r219 ⟨by omega, by omega⟩ dX0_advanceWrit_147 (fun f220 H locs e221 n222 g223 hW => ?_)
              have hF := FM.tr hF g223 rfl
              refine lv_aload_n hx hb dX0_advanceWrit_148 rfl (lv_at hl 1 rfl) ?_
              refine lv_iload_n hx hb dX0_advanceWrit_149 rfl (lv_at hl 0 rfl) ?_
              refine lv_aload_n hx hb dX0_advanceWrit_150 rfl (lv_at hl 1 rfl) ?_
              refine fg_RX0_28 E hW rh0 dX0_advanceWrit_151 (fun a224 m225 r226 => ?_)
              obtain rfl : a1 = a224 := (((fm_R g223 rh0 rfl).trans m215)).symm.trans m225
              refine fg_RX0_238 E hW r3 dX0_advanceWrit_154 (fun a227 m228 r229 => ?_)
              obtain rfl : a42 = a227 := (((fm_R g223 r3 rfl).trans ((fm_R g112 r3 rfl).trans ((fm_R g88 r3 rfl).trans ((fm_R g71 r3 rfl).trans m43))))).symm.trans m228
              refine lv_iload_n hx hb dX0_advanceWrit_157 rfl (lv_at hl 2 rfl) ?_
              refine gl_702 E hW r44 ⟨by omega, by omega⟩ dX0_advanceWrit_158 (fun y230 m231 b232 => ?_)
              obtain rfl : y45 = y230 := (((congrArg (fun z => aI z (u1 : Int32).toNatClampNeg) (fm_A g223 r44 (by decide) rfl)).trans ((congrArg (fun z => aI z (u1 : Int32).toNatClampNeg) (fm_A g112 r44 (by decide) rfl)).trans ((congrArg (fun z => aI z (u1 : Int32).toNatClampNeg) (fm_A g88 r44 (by decide) rfl)).trans ((congrArg (fun z => aI z (u1 : Int32).toNatClampNeg) (fm_A g71 r44 (by decide) rfl)).trans m46))))).symm.trans m231
              refine t_callV (As := [.int y7, .int y45]) (rest := []) E hW (c_X0_putOut l G cI cJ cZ cD cR cT kp L f220 hW.2.2.2 _ h0 y7 y45 rh0 (by omega) (by omega)) rh0 (by decide) rfl wk_X0_putOut tw_1154 rfl ⟨Nat.le_of_ble_eq_true rfl, Nat.le_of_ble_eq_true rfl⟩ ⟨rfl, rfl⟩ hl.1 rfl (Nat.le_of_ble_eq_true rfl) dX0_advanceWrit_159 ⟨Nat.le_of_ble_eq_true rfl, Nat.le_of_ble_eq_true rfl⟩ (fun v233 f234 H locs q235 hW => ?_)
              obtain ⟨rfl, g236⟩ := q235
              have hF := FM.tr hF g236 rfl
              refine lv_goto (tgt := 190) hx hb dX0_advanceWrit_162 (by decide) ?_
              exact J184 f234 ((fm_R g236 r3 rfl).trans ((fm_R g223 r3 rfl).trans ((fm_R g112 r3 rfl).trans ((fm_R g88 r3 rfl).trans ((fm_R g71 r3 rfl).trans m5))))) ((fm_R g236 r3 rfl).trans m228) ((fm_R g236 r3 rfl).trans ((fm_R g223 r3 rfl).trans m117)) ((fm_R g236 r3 rfl).trans ((fm_R g223 r3 rfl).trans ((fm_R g112 r3 rfl).trans m93))) ((fm_R g236 r3 rfl).trans ((fm_R g223 r3 rfl).trans ((fm_R g112 r3 rfl).trans ((fm_R g88 r3 rfl).trans ((fm_R g71 r3 rfl).trans m53))))) ((fm_R g236 r12 rfl).trans ((fm_R g223 r12 rfl).trans ((fm_R g112 r12 rfl).trans ((fm_R g88 r12 rfl).trans ((fm_R g71 r12 rfl).trans m34))))) ((fm_R g236 r12 rfl).trans ((fm_R g223 r12 rfl).trans ((fm_R g112 r12 rfl).trans ((fm_R g88 r12 rfl).trans ((fm_R g71 r12 rfl).trans m14))))) ((fm_R g236 rh0 rfl).trans ((fm_R g223 rh0 rfl).trans ((fm_R g112 rh0 rfl).trans ((fm_R g88 rh0 rfl).trans ((fm_R g71 rh0 rfl).trans m31))))) ((fm_R g236 rh0 rfl).trans m225) ((fm_I g236 rh0 rfl).trans ((fm_I g223 rh0 rfl).trans ((fm_I g112 rh0 rfl).trans ((fm_I g88 rh0 rfl).trans ((fm_I g71 rh0 rfl).trans m66))))) _ _ _ hW hF (lv_sub hl [0, 1, 2] rfl)
          · exact e_V E hW rfl ⟨rfl, hF⟩ dX0_advanceWrit_111
        · exact e_V E hW rfl ⟨rfl, hF⟩ dX0_advanceWrit_85
    · refine lv_aload_n hx hb dX0_advanceWrit_43 rfl (lv_at hl 1 rfl) ?_
      refine fg_RX0_28 E hW rh0 dX0_advanceWrit_44 (fun a237 m238 r239 => ?_)
      obtain rfl : a1 = a237 := (m40).symm.trans m238
      refine fg_RX0_151 E hW r3 dX0_advanceWrit_47 (fun a240 m241 r242 => ?_)
      refine lv_iload_n hx hb dX0_advanceWrit_50 rfl (lv_at hl 2 rfl) ?_
      refine lv_iconst (v := 0) hx hb dX0_advanceWrit_51 (by decide) ?_
      refine gs_706 E hW r242 ⟨by omega, by omega⟩ dX0_advanceWrit_52 (fun f243 H locs e244 n245 g246 hW => ?_)
      have hF := FM.tr hF g246 rfl
      exact e_V E hW rfl ⟨rfl, hF⟩ dX0_advanceWrit_53
def ms_X0_join : List (Nat × Nat) := []
def po_X0_join (kp : Nat → Nat) (L : List Nat) (f0 : Nat → va_E) (u1 : Int32) (u2 : Int64) (u3 : Int64) : Option Value → (Nat → va_E) → Prop := fun v f => (∃ r : Int64, v = some (.long r) ∧ (True)) ∧ FM kp L ms_X0_join f0 f
set_option maxHeartbeats 4000000 in
set_option maxRecDepth 100000 in
theorem c_X0_join (l : Launch) (G : va_G) (cI cJ cZ cD cR cT : ClassId) (kp : Nat → Nat) (L : List Nat) (f0 : Nat → va_E) (hTH : TH cI cJ cZ cD cR cT kp L f0) (sz : Nat) (u1 : Int32) (u2 : Int64) (u3 : Int64) (pu1 : u1.toInt ≤ 255) : Met l yX0_join (Cond.code yX0_join cX0_join 7 (some .long) :: wTab) ({ frames := 1, cells := 0, slots := 0, locals := 40 }) (va_Pc [.int u1, .long u2, .long u3] (PreW G (tys6 cI cJ cZ cD cR cT) (va_pl L f0) sz)) (QT (po_X0_join kp L f0 u1 u2 u3) G cI cJ cZ cD cR cT (va_A (va_pl L f0) sz) kp L) 0 0 (va_A (va_pl L f0) sz) := by
  refine metT (by decide) (Nat.le_of_ble_eq_true rfl) hTH ?_
  intro p e s m below meth c A ls E hW hl
  obtain ⟨hx, hb, -, hml, hown, hts, -, -, -⟩ := id E
  have hF : FM kp L ms_X0_join f0 f0 := FM.rf
  have hl : lv_has ls 7 [(0, .int u1), (1, .long u2), (3, .long u3)] := hl
  refine lv_iload_n hx hb dX0_join_0 rfl (lv_at hl 0 rfl) ?_
  have J22 : ∀ (y21 : Int64) (H : Heap) (locs : List Loc) (ls : Array Slot), WS G cI cJ cZ cD cR cT A kp L f0 s H locs → FM kp L ms_X0_join f0 f0 → lv_has ls 7 [(5, .long y21), (0, .int u1), (1, .long u2), (3, .long u3)] → W p l e ({ frames := 1, cells := 0, slots := 0, locals := 40 }) s m ([.int u1, .long u2, .long u3] : List Value).toArray below meth c H locs 0 0 (MQ below (QT (po_X0_join kp L f0 u1 u2 u3) G cI cJ cZ cD cR cT A kp L) ([.int u1, .long u2, .long u3] : List Value).toArray s 0 0 A) (F0 m 149 ls []) := by
    intro y21 H locs ls hW hF hl
    refine lv_lload hx hb dX0_join_149 (lv_at hl 0 rfl) ?_
    refine lv_ldc2 (v := (-1000000000)) hx hb hown (hts _ tw_740) dX0_join_151 ?_
    have J26 : ∀ (y24 : Int64) (b25 : (-4000000000000000000 : Int) ≤ y24.toInt ∧ y24.toInt ≤ 1000000000) (H : Heap) (locs : List Loc) (ls : Array Slot), WS G cI cJ cZ cD cR cT A kp L f0 s H locs → FM kp L ms_X0_join f0 f0 → lv_has ls 7 [(5, .long y21), (0, .int u1), (1, .long u2), (3, .long u3)] → W p l e ({ frames := 1, cells := 0, slots := 0, locals := 40 }) s m ([.int u1, .long u2, .long u3] : List Value).toArray below meth c H locs 0 0 (MQ below (QT (po_X0_join kp L f0 u1 u2 u3) G cI cJ cZ cD cR cT A kp L) ([.int u1, .long u2, .long u3] : List Value).toArray s 0 0 A) (F0 m 175 ls [.long y24]) := by
      intro y24 b25 H locs ls hW hF hl
      exact e_J E hW rfl ⟨⟨_, rfl, trivial⟩, hF⟩ dX0_join_175
    refine q_lcmp_lt (Y := -1000000000) (tgt := 167) hx hb dX0_join_154 dX0_join_155 (by decide) rfl rfl (fun c27 => ?_) (fun c27 => ?_)
    · refine lv_ldc2 (v := (-4000000000000000000)) hx hb hown (hts _ tw_721) dX0_join_167 ?_
      refine lv_goto (tgt := 175) hx hb dX0_join_170 (by decide) ?_
      exact J26 (-4000000000000000000) (by decide) _ _ _ hW hF (lv_sub hl [0, 1, 2, 3] rfl)
    · refine lv_lload hx hb dX0_join_158 (lv_at hl 0 rfl) ?_
      refine lv_ldc2 (v := 1000000000) hx hb hown (hts _ tw_741) dX0_join_160 ?_
      refine q_lcmp_le (Y := 1000000000) (tgt := 173) hx hb dX0_join_163 dX0_join_164 (by decide) rfl rfl (fun c28 => ?_) (fun c28 => ?_)
      · refine lv_lload hx hb dX0_join_173 (lv_at hl 0 rfl) ?_
        exact J26 y21 (by omega) _ _ _ hW hF (lv_sub hl [0, 1, 2, 3] rfl)
      · refine lv_ldc2 (v := (-4000000000000000000)) hx hb hown (hts _ tw_721) dX0_join_167 ?_
        refine lv_goto (tgt := 175) hx hb dX0_join_170 (by decide) ?_
        exact J26 (-4000000000000000000) (by decide) _ _ _ hW hF (lv_sub hl [0, 1, 2, 3] rfl)
  by_cases c29 : u1.toInt = 42
  · refine lv_lookup (off := 75) (tgt := 76) hx hb dX0_join_1 (by decide) (by rw [c29]; decide) (by decide) ?_
    refine lv_lload_n hx hb dX0_join_76 rfl (lv_at hl 1 rfl) ?_
    refine lv_lload_n hx hb dX0_join_77 rfl (lv_at hl 2 rfl) ?_
    refine u_lmul hx hb dX0_join_78 (fun x30 => ?_)
    refine lv_lstore (lv' := [(5, .long x30), (0, .int u1), (1, .long u2), (3, .long u3)]) hx hb dX0_join_79 hl (by decide) rfl (fun ls hl => ?_)
    refine lv_goto (tgt := 149) hx hb dX0_join_81 (by decide) ?_
    exact J22 x30  _ _ _ hW hF (lv_sub hl [0, 1, 2, 3] rfl)
  by_cases c31 : u1.toInt = 43
  · refine lv_lookup (off := 59) (tgt := 60) hx hb dX0_join_1 (by decide) (by rw [c31]; decide) (by decide) ?_
    refine lv_lload_n hx hb dX0_join_60 rfl (lv_at hl 1 rfl) ?_
    refine lv_lload_n hx hb dX0_join_61 rfl (lv_at hl 2 rfl) ?_
    refine u_ladd hx hb dX0_join_62 (fun x32 => ?_)
    refine lv_lstore (lv' := [(5, .long x32), (0, .int u1), (1, .long u2), (3, .long u3)]) hx hb dX0_join_63 hl (by decide) rfl (fun ls hl => ?_)
    refine lv_goto (tgt := 149) hx hb dX0_join_65 (by decide) ?_
    exact J22 x32  _ _ _ hW hF (lv_sub hl [0, 1, 2, 3] rfl)
  by_cases c33 : u1.toInt = 45
  · refine lv_lookup (off := 67) (tgt := 68) hx hb dX0_join_1 (by decide) (by rw [c33]; decide) (by decide) ?_
    refine lv_lload_n hx hb dX0_join_68 rfl (lv_at hl 1 rfl) ?_
    refine lv_lload_n hx hb dX0_join_69 rfl (lv_at hl 2 rfl) ?_
    refine u_lsub hx hb dX0_join_70 (fun x34 => ?_)
    refine lv_lstore (lv' := [(5, .long x34), (0, .int u1), (1, .long u2), (3, .long u3)]) hx hb dX0_join_71 hl (by decide) rfl (fun ls hl => ?_)
    refine lv_goto (tgt := 149) hx hb dX0_join_73 (by decide) ?_
    exact J22 x34  _ _ _ hW hF (lv_sub hl [0, 1, 2, 3] rfl)
  by_cases c35 : u1.toInt = 47
  · refine lv_lookup (off := 83) (tgt := 84) hx hb dX0_join_1 (by decide) (by rw [c35]; decide) (by decide) ?_
    refine lv_lload_n hx hb dX0_join_84 rfl (lv_at hl 2 rfl) ?_
    refine lv_lconst (v := 0) hx hb dX0_join_85 (by decide) ?_
    have J38 : ∀ (y37 : Int64) (H : Heap) (locs : List Loc) (ls : Array Slot), WS G cI cJ cZ cD cR cT A kp L f0 s H locs → FM kp L ms_X0_join f0 f0 → lv_has ls 7 [(0, .int u1), (1, .long u2), (3, .long u3)] → W p l e ({ frames := 1, cells := 0, slots := 0, locals := 40 }) s m ([.int u1, .long u2, .long u3] : List Value).toArray below meth c H locs 0 0 (MQ below (QT (po_X0_join kp L f0 u1 u2 u3) G cI cJ cZ cD cR cT A kp L) ([.int u1, .long u2, .long u3] : List Value).toArray s 0 0 A) (F0 m 99 ls [.long y37]) := by
      intro y37 H locs ls hW hF hl
      refine lv_lstore (lv' := [(5, .long y37), (0, .int u1), (1, .long u2), (3, .long u3)]) hx hb dX0_join_99 hl (by decide) rfl (fun ls hl => ?_)
      refine lv_goto (tgt := 149) hx hb dX0_join_101 (by decide) ?_
      exact J22 y37  _ _ _ hW hF (lv_sub hl [0, 1, 2, 3] rfl)
    refine q_lcmp_ne (Y := 0) (tgt := 96) hx hb dX0_join_86 dX0_join_87 (by decide) rfl rfl (fun c39 => ?_) (fun c39 => ?_)
    · refine lv_lload_n hx hb dX0_join_96 rfl (lv_at hl 1 rfl) ?_
      refine lv_lload_n hx hb dX0_join_97 rfl (lv_at hl 2 rfl) ?_
      refine u_ldiv hx hb dX0_join_98 (by omega) (fun x40 => ?_)
      exact J38 x40  _ _ _ hW hF (lv_sub hl [0, 1, 2] rfl)
    · refine lv_ldc2 (v := (-4000000000000000000)) hx hb hown (hts _ tw_721) dX0_join_90 ?_
      refine lv_goto (tgt := 99) hx hb dX0_join_93 (by decide) ?_
      exact J38 (-4000000000000000000)  _ _ _ hW hF (lv_sub hl [0, 1, 2] rfl)
  by_cases c41 : u1.toInt = 60
  · refine lv_lookup (off := 103) (tgt := 104) hx hb dX0_join_1 (by decide) (by rw [c41]; decide) (by decide) ?_
    refine lv_lload_n hx hb dX0_join_104 rfl (lv_at hl 1 rfl) ?_
    refine lv_lload_n hx hb dX0_join_105 rfl (lv_at hl 2 rfl) ?_
    have J44 : ∀ (y42 : Int64) (b43 : (0 : Int) ≤ y42.toInt ∧ y42.toInt ≤ 1) (H : Heap) (locs : List Loc) (ls : Array Slot), WS G cI cJ cZ cD cR cT A kp L f0 s H locs → FM kp L ms_X0_join f0 f0 → lv_has ls 7 [(0, .int u1), (1, .long u2), (3, .long u3)] → W p l e ({ frames := 1, cells := 0, slots := 0, locals := 40 }) s m ([.int u1, .long u2, .long u3] : List Value).toArray below meth c H locs 0 0 (MQ below (QT (po_X0_join kp L f0 u1 u2 u3) G cI cJ cZ cD cR cT A kp L) ([.int u1, .long u2, .long u3] : List Value).toArray s 0 0 A) (F0 m 115 ls [.long y42]) := by
      intro y42 b43 H locs ls hW hF hl
      refine lv_lstore (lv' := [(5, .long y42), (0, .int u1), (1, .long u2), (3, .long u3)]) hx hb dX0_join_115 hl (by decide) rfl (fun ls hl => ?_)
      refine lv_goto (tgt := 149) hx hb dX0_join_117 (by decide) ?_
      exact J22 y42  _ _ _ hW hF (lv_sub hl [0, 1, 2, 3] rfl)
    refine q_lcmp_ge (tgt := 114) hx hb dX0_join_106 dX0_join_107 (by decide) rfl rfl (fun c45 => ?_) (fun c45 => ?_)
    · refine lv_lconst (v := 0) hx hb dX0_join_114 (by decide) ?_
      exact J44 0 (by decide) _ _ _ hW hF (lv_sub hl [0, 1, 2] rfl)
    · refine lv_lconst (v := 1) hx hb dX0_join_110 (by decide) ?_
      refine lv_goto (tgt := 115) hx hb dX0_join_111 (by decide) ?_
      exact J44 1 (by decide) _ _ _ hW hF (lv_sub hl [0, 1, 2] rfl)
  by_cases c46 : u1.toInt = 62
  · refine lv_lookup (off := 119) (tgt := 120) hx hb dX0_join_1 (by decide) (by rw [c46]; decide) (by decide) ?_
    refine lv_lload_n hx hb dX0_join_120 rfl (lv_at hl 1 rfl) ?_
    refine lv_lload_n hx hb dX0_join_121 rfl (lv_at hl 2 rfl) ?_
    have J49 : ∀ (y47 : Int64) (b48 : (0 : Int) ≤ y47.toInt ∧ y47.toInt ≤ 1) (H : Heap) (locs : List Loc) (ls : Array Slot), WS G cI cJ cZ cD cR cT A kp L f0 s H locs → FM kp L ms_X0_join f0 f0 → lv_has ls 7 [(0, .int u1), (1, .long u2), (3, .long u3)] → W p l e ({ frames := 1, cells := 0, slots := 0, locals := 40 }) s m ([.int u1, .long u2, .long u3] : List Value).toArray below meth c H locs 0 0 (MQ below (QT (po_X0_join kp L f0 u1 u2 u3) G cI cJ cZ cD cR cT A kp L) ([.int u1, .long u2, .long u3] : List Value).toArray s 0 0 A) (F0 m 131 ls [.long y47]) := by
      intro y47 b48 H locs ls hW hF hl
      refine lv_lstore (lv' := [(5, .long y47), (0, .int u1), (1, .long u2), (3, .long u3)]) hx hb dX0_join_131 hl (by decide) rfl (fun ls hl => ?_)
      refine lv_goto (tgt := 149) hx hb dX0_join_133 (by decide) ?_
      exact J22 y47  _ _ _ hW hF (lv_sub hl [0, 1, 2, 3] rfl)
    refine q_lcmp_le (tgt := 130) hx hb dX0_join_122 dX0_join_123 (by decide) rfl rfl (fun c50 => ?_) (fun c50 => ?_)
    · refine lv_lconst (v := 0) hx hb dX0_join_130 (by decide) ?_
      exact J49 0 (by decide) _ _ _ hW hF (lv_sub hl [0, 1, 2] rfl)
    · refine lv_lconst (v := 1) hx hb dX0_join_126 (by decide) ?_
      refine lv_goto (tgt := 131) hx hb dX0_join_127 (by decide) ?_
      exact J49 1 (by decide) _ _ _ hW hF (lv_sub hl [0, 1, 2] rfl)
  refine lv_lookup (off := 135) (tgt := 136) hx hb dX0_join_1 (by decide) (by simp [Op.lookupswitch.offset, List.find?, Ne.symm c29, Ne.symm c31, Ne.symm c33, Ne.symm c35, Ne.symm c41, Ne.symm c46, c29, c31, c33, c35, c41, c46]) (by decide) ?_
  refine lv_lload_n hx hb dX0_join_136 rfl (lv_at hl 1 rfl) ?_
  refine lv_lload_n hx hb dX0_join_137 rfl (lv_at hl 2 rfl) ?_
  have J53 : ∀ (y51 : Int64) (b52 : (0 : Int) ≤ y51.toInt ∧ y51.toInt ≤ 1) (H : Heap) (locs : List Loc) (ls : Array Slot), WS G cI cJ cZ cD cR cT A kp L f0 s H locs → FM kp L ms_X0_join f0 f0 → lv_has ls 7 [(0, .int u1), (1, .long u2), (3, .long u3)] → W p l e ({ frames := 1, cells := 0, slots := 0, locals := 40 }) s m ([.int u1, .long u2, .long u3] : List Value).toArray below meth c H locs 0 0 (MQ below (QT (po_X0_join kp L f0 u1 u2 u3) G cI cJ cZ cD cR cT A kp L) ([.int u1, .long u2, .long u3] : List Value).toArray s 0 0 A) (F0 m 147 ls [.long y51]) := by
    intro y51 b52 H locs ls hW hF hl
    refine lv_lstore (lv' := [(5, .long y51), (0, .int u1), (1, .long u2), (3, .long u3)]) hx hb dX0_join_147 hl (by decide) rfl (fun ls hl => ?_)
    exact J22 y51  _ _ _ hW hF (lv_sub hl [0, 1, 2, 3] rfl)
  refine q_lcmp_ne (tgt := 146) hx hb dX0_join_138 dX0_join_139 (by decide) rfl rfl (fun c54 => ?_) (fun c54 => ?_)
  · refine lv_lconst (v := 0) hx hb dX0_join_146 (by decide) ?_
    exact J53 0 (by decide) _ _ _ hW hF (lv_sub hl [0, 1, 2] rfl)
  · refine lv_lconst (v := 1) hx hb dX0_join_142 (by decide) ?_
    refine lv_goto (tgt := 147) hx hb dX0_join_143 (by decide) ?_
    exact J53 1 (by decide) _ _ _ hW hF (lv_sub hl [0, 1, 2] rfl)
def ms_X0_wordOf : List (Nat × Nat) := []
def po_X0_wordOf (kp : Nat → Nat) (L : List Nat) (f0 : Nat → va_E) (h0 : Nat) (u1 : Int32) (u2 : Int32) (u3 : Int32) : Option Value → (Nat → va_E) → Prop := fun v f => (∃ r : Int32, v = some (.int r) ∧ (True)) ∧ FM kp L ms_X0_wordOf f0 f
set_option maxHeartbeats 4000000 in
set_option maxRecDepth 100000 in
theorem c_X0_wordOf (l : Launch) (G : va_G) (cI cJ cZ cD cR cT : ClassId) (kp : Nat → Nat) (L : List Nat) (f0 : Nat → va_E) (hTH : TH cI cJ cZ cD cR cT kp L f0) (sz : Nat) (h0 : Nat) (u1 : Int32) (u2 : Int32) (u3 : Int32) (rh0 : RK kp L h0 0) (pu1 : (268 : Int) ≤ u1.toInt ∧ u1.toInt ≤ 282) (pu2 : (-1 : Int) ≤ u2.toInt ∧ u2.toInt ≤ 39) (pu3 : (-1 : Int) ≤ u3.toInt ∧ u3.toInt ≤ 39) : Met l yX0_wordOf (Cond.code yX0_wordOf cX0_wordOf 4 (some .int) :: wTab) ({ frames := 2, cells := 0, slots := 0, locals := 63 }) (va_Pc [.ref h0, .int u1, .int u2, .int u3] (PreW G (tys6 cI cJ cZ cD cR cT) (va_pl L f0) sz)) (QT (po_X0_wordOf kp L f0 h0 u1 u2 u3) G cI cJ cZ cD cR cT (va_A (va_pl L f0) sz) kp L) 0 0 (va_A (va_pl L f0) sz) := by
  refine metT (by decide) (Nat.le_of_ble_eq_true rfl) hTH ?_
  intro p e s m below meth c A ls E hW hl
  obtain ⟨hx, hb, -, hml, hown, hts, -, -, -⟩ := id E
  have hF : FM kp L ms_X0_wordOf f0 f0 := FM.rf
  have hl : lv_has ls 4 [(0, .ref h0), (1, .int u1), (2, .int u2), (3, .int u3)] := hl
  refine lv_iload_n hx hb dX0_wordOf_0 rfl (lv_at hl 1 rfl) ?_
  refine lv_sipush (v := 276) hx hb dX0_wordOf_1 (by decide) ?_
  refine q_icmp_gt (Y := 276) (tgt := 21) hx hb dX0_wordOf_4 (by decide) rfl rfl (fun c1 => ?_) (fun c1 => ?_)
  · refine lv_iload_n hx hb dX0_wordOf_21 rfl (lv_at hl 1 rfl) ?_
    refine lv_sipush (v := 280) hx hb dX0_wordOf_22 (by decide) ?_
    refine q_icmp_gt (Y := 280) (tgt := 41) hx hb dX0_wordOf_25 (by decide) rfl rfl (fun c2 => ?_) (fun c2 => ?_)
    · refine lv_iload_n hx hb dX0_wordOf_41 rfl (lv_at hl 1 rfl) ?_
      by_cases c3 : u1.toInt = 268
      · exfalso; omega
      by_cases c4 : u1.toInt = 269
      · exfalso; omega
      by_cases c5 : u1.toInt = 270
      · exfalso; omega
      by_cases c6 : u1.toInt = 271
      · exfalso; omega
      by_cases c7 : u1.toInt = 272
      · exfalso; omega
      by_cases c8 : u1.toInt = 273
      · exfalso; omega
      by_cases c9 : u1.toInt = 274
      · exfalso; omega
      by_cases c10 : u1.toInt = 275
      · exfalso; omega
      by_cases c11 : u1.toInt = 276
      · exfalso; omega
      by_cases c12 : u1.toInt = 277
      · exfalso; omega
      by_cases c13 : u1.toInt = 278
      · exfalso; omega
      by_cases c14 : u1.toInt = 279
      · exfalso; omega
      by_cases c15 : u1.toInt = 280
      · exfalso; omega
      by_cases c16 : u1.toInt = 281
      · refine lv_tableIn (tgt := 156) hx hb dX0_wordOf_42 (by omega) (by omega) (by rw [c16]; rfl) (by decide) ?_
        refine lv_aload_n hx hb dX0_wordOf_156 rfl (lv_at hl 0 rfl) ?_
        refine fg_RX0_93 E hW rh0 dX0_wordOf_157 (fun y17 m18 b19 => ?_)
        exact e_I E hW rfl ⟨⟨_, rfl, trivial⟩, hF⟩ dX0_wordOf_160
      by_cases c20 : u1.toInt = 282
      · refine lv_tableIn (tgt := 161) hx hb dX0_wordOf_42 (by omega) (by omega) (by rw [c20]; rfl) (by decide) ?_
        refine lv_aload_n hx hb dX0_wordOf_161 rfl (lv_at hl 0 rfl) ?_
        refine fg_RX0_121 E hW rh0 dX0_wordOf_162 (fun y21 m22 => ?_)
        exact e_I E hW rfl ⟨⟨_, rfl, trivial⟩, hF⟩ dX0_wordOf_165
      refine lv_tableOut (tgt := 278) hx hb dX0_wordOf_42 (by omega) (by decide) ?_
      refine lv_iconst (v := 0) hx hb dX0_wordOf_278 (by decide) ?_
      exact e_I E hW rfl ⟨⟨_, rfl, trivial⟩, hF⟩ dX0_wordOf_279
    · refine lv_aload_n hx hb dX0_wordOf_28 rfl (lv_at hl 0 rfl) ?_
      refine fg_RX0_21 E hW rh0 dX0_wordOf_29 (fun a24 m25 r26 => ?_)
      refine lv_iload_n hx hb dX0_wordOf_32 rfl (lv_at hl 3 rfl) ?_
      refine t_callV (As := [.int u3]) (rest := []) E hW (c_X1_has l G cI cJ cZ cD cR cT kp L f0 hW.2.2.2 _ a24 u3 r26) r26 (by decide) rfl wk_X1_has tw_727 rfl ⟨Nat.le_of_ble_eq_true rfl, Nat.le_of_ble_eq_true rfl⟩ ⟨rfl, rfl⟩ hl.1 rfl (Nat.le_of_ble_eq_true rfl) dX0_wordOf_33 ⟨Nat.le_of_ble_eq_true rfl, Nat.le_of_ble_eq_true rfl⟩ (fun v27 f28 H locs q29 hW => ?_)
      obtain ⟨⟨x31, rfl, p32⟩, g30⟩ := q29
      have hF := FM.tr hF g30 rfl
      refine q_if_ne (tgt := 41) hx hb dX0_wordOf_36 (by decide) rfl (fun c33 => ?_) (fun c33 => ?_)
      · have q34 : 0 ≤ u3.toInt ∧ u3.toInt ≤ 39 := by omega
        clear p32
        refine lv_iload_n hx hb dX0_wordOf_41 rfl (lv_at hl 1 rfl) ?_
        by_cases c35 : u1.toInt = 268
        · exfalso; omega
        by_cases c36 : u1.toInt = 269
        · exfalso; omega
        by_cases c37 : u1.toInt = 270
        · exfalso; omega
        by_cases c38 : u1.toInt = 271
        · exfalso; omega
        by_cases c39 : u1.toInt = 272
        · exfalso; omega
        by_cases c40 : u1.toInt = 273
        · exfalso; omega
        by_cases c41 : u1.toInt = 274
        · exfalso; omega
        by_cases c42 : u1.toInt = 275
        · exfalso; omega
        by_cases c43 : u1.toInt = 276
        · exfalso; omega
        by_cases c44 : u1.toInt = 277
        · refine lv_tableIn (tgt := 116) hx hb dX0_wordOf_42 (by omega) (by omega) (by rw [c44]; rfl) (by decide) ?_
          refine lv_aload_n hx hb dX0_wordOf_116 rfl (lv_at hl 0 rfl) ?_
          refine fg_RX0_21 E hW rh0 dX0_wordOf_117 (fun a45 m46 r47 => ?_)
          obtain rfl : a24 = a45 := (((fm_R g30 rh0 rfl).trans m25)).symm.trans m46
          refine fg_RX0_172 E hW r26 dX0_wordOf_120 (fun a48 m49 r50 => ?_)
          refine lv_iload_n hx hb dX0_wordOf_123 rfl (lv_at hl 3 rfl) ?_
          refine gl_162 E hW r50 ⟨by omega, by omega⟩ dX0_wordOf_124 (fun y51 m52 => ?_)
          exact e_I E hW rfl ⟨⟨_, rfl, trivial⟩, hF⟩ dX0_wordOf_125
        by_cases c54 : u1.toInt = 278
        · refine lv_tableIn (tgt := 126) hx hb dX0_wordOf_42 (by omega) (by omega) (by rw [c54]; rfl) (by decide) ?_
          refine lv_aload_n hx hb dX0_wordOf_126 rfl (lv_at hl 0 rfl) ?_
          refine fg_RX0_21 E hW rh0 dX0_wordOf_127 (fun a55 m56 r57 => ?_)
          obtain rfl : a24 = a55 := (((fm_R g30 rh0 rfl).trans m25)).symm.trans m56
          refine fg_RX0_342 E hW r26 dX0_wordOf_130 (fun a58 m59 r60 => ?_)
          refine lv_iload_n hx hb dX0_wordOf_133 rfl (lv_at hl 3 rfl) ?_
          refine gl_163 E hW r60 ⟨by omega, by omega⟩ dX0_wordOf_134 (fun y61 m62 => ?_)
          exact e_I E hW rfl ⟨⟨_, rfl, trivial⟩, hF⟩ dX0_wordOf_135
        by_cases c64 : u1.toInt = 279
        · refine lv_tableIn (tgt := 136) hx hb dX0_wordOf_42 (by omega) (by omega) (by rw [c64]; rfl) (by decide) ?_
          refine lv_aload_n hx hb dX0_wordOf_136 rfl (lv_at hl 0 rfl) ?_
          refine fg_RX0_21 E hW rh0 dX0_wordOf_137 (fun a65 m66 r67 => ?_)
          obtain rfl : a24 = a65 := (((fm_R g30 rh0 rfl).trans m25)).symm.trans m66
          refine fg_RX0_188 E hW r26 dX0_wordOf_140 (fun a68 m69 r70 => ?_)
          refine lv_iload_n hx hb dX0_wordOf_143 rfl (lv_at hl 3 rfl) ?_
          refine gl_165 E hW r70 ⟨by omega, by omega⟩ dX0_wordOf_144 (fun y71 m72 => ?_)
          exact e_I E hW rfl ⟨⟨_, rfl, trivial⟩, hF⟩ dX0_wordOf_145
        by_cases c74 : u1.toInt = 280
        · refine lv_tableIn (tgt := 146) hx hb dX0_wordOf_42 (by omega) (by omega) (by rw [c74]; rfl) (by decide) ?_
          refine lv_aload_n hx hb dX0_wordOf_146 rfl (lv_at hl 0 rfl) ?_
          refine fg_RX0_21 E hW rh0 dX0_wordOf_147 (fun a75 m76 r77 => ?_)
          obtain rfl : a24 = a75 := (((fm_R g30 rh0 rfl).trans m25)).symm.trans m76
          refine fg_RX0_204 E hW r26 dX0_wordOf_150 (fun a78 m79 r80 => ?_)
          refine lv_iload_n hx hb dX0_wordOf_153 rfl (lv_at hl 3 rfl) ?_
          refine gl_161 E hW r80 ⟨by omega, by omega⟩ dX0_wordOf_154 (fun y81 m82 b83 => ?_)
          exact e_I E hW rfl ⟨⟨_, rfl, trivial⟩, hF⟩ dX0_wordOf_155
        by_cases c84 : u1.toInt = 281
        · exfalso; omega
        by_cases c85 : u1.toInt = 282
        · exfalso; omega
        refine lv_tableOut (tgt := 278) hx hb dX0_wordOf_42 (by omega) (by decide) ?_
        refine lv_iconst (v := 0) hx hb dX0_wordOf_278 (by decide) ?_
        exact e_I E hW rfl ⟨⟨_, rfl, trivial⟩, hF⟩ dX0_wordOf_279
      · clear p32
        refine lv_iconst (v := 0) hx hb dX0_wordOf_39 (by decide) ?_
        exact e_I E hW rfl ⟨⟨_, rfl, trivial⟩, hF⟩ dX0_wordOf_40
  · refine lv_aload_n hx hb dX0_wordOf_7 rfl (lv_at hl 0 rfl) ?_
    refine fg_RX0_12 E hW rh0 dX0_wordOf_8 (fun a86 m87 r88 => ?_)
    refine lv_iload_n hx hb dX0_wordOf_11 rfl (lv_at hl 2 rfl) ?_
    refine t_callV (As := [.int u2]) (rest := []) E hW (c_X4_has l G cI cJ cZ cD cR cT kp L f0 hW.2.2.2 _ a86 u2 r88) r88 (by decide) rfl wk_X4_has tw_726 rfl ⟨Nat.le_of_ble_eq_true rfl, Nat.le_of_ble_eq_true rfl⟩ ⟨rfl, rfl⟩ hl.1 rfl (Nat.le_of_ble_eq_true rfl) dX0_wordOf_12 ⟨Nat.le_of_ble_eq_true rfl, Nat.le_of_ble_eq_true rfl⟩ (fun v89 f90 H locs q91 hW => ?_)
    obtain ⟨⟨x93, rfl, p94⟩, g92⟩ := q91
    have hF := FM.tr hF g92 rfl
    refine q_if_ne (tgt := 41) hx hb dX0_wordOf_15 (by decide) rfl (fun c95 => ?_) (fun c95 => ?_)
    · have q96 : 0 ≤ u2.toInt ∧ u2.toInt ≤ 39 := by omega
      clear p94
      refine lv_iload_n hx hb dX0_wordOf_41 rfl (lv_at hl 1 rfl) ?_
      by_cases c97 : u1.toInt = 268
      · refine lv_tableIn (tgt := 166) hx hb dX0_wordOf_42 (by omega) (by omega) (by rw [c97]; rfl) (by decide) ?_
        refine lv_aload_n hx hb dX0_wordOf_166 rfl (lv_at hl 0 rfl) ?_
        refine fg_RX0_21 E hW rh0 dX0_wordOf_167 (fun a98 m99 r100 => ?_)
        refine lv_iload_n hx hb dX0_wordOf_170 rfl (lv_at hl 2 rfl) ?_
        refine t_callV (As := [.int u2]) (rest := []) E hW (c_X1_isHeldBy l G cI cJ cZ cD cR cT kp L f90 hW.2.2.2 _ a98 u2 r100 (by omega)) r100 (by decide) rfl wk_X1_isHeldBy tw_728 rfl ⟨Nat.le_of_ble_eq_true rfl, Nat.le_of_ble_eq_true rfl⟩ ⟨rfl, rfl⟩ hl.1 rfl (Nat.le_of_ble_eq_true rfl) dX0_wordOf_171 ⟨Nat.le_of_ble_eq_true rfl, Nat.le_of_ble_eq_true rfl⟩ (fun v101 f102 H locs q103 hW => ?_)
        obtain ⟨⟨x105, rfl, p106⟩, g104⟩ := q103
        have hF := FM.tr hF g104 rfl
        have J109 : ∀ (y107 : Int32) (b108 : (0 : Int) ≤ y107.toInt ∧ y107.toInt ≤ 1) (H : Heap) (locs : List Loc) (ls : Array Slot), WS G cI cJ cZ cD cR cT A kp L f102 s H locs → FM kp L ms_X0_wordOf f0 f102 → lv_has ls 4 [(0, .ref h0), (1, .int u1), (2, .int u2), (3, .int u3)] → W p l e ({ frames := 2, cells := 0, slots := 0, locals := 63 }) s m ([.ref h0, .int u1, .int u2, .int u3] : List Value).toArray below meth c H locs 0 0 (MQ below (QT (po_X0_wordOf kp L f0 h0 u1 u2 u3) G cI cJ cZ cD cR cT A kp L) ([.ref h0, .int u1, .int u2, .int u3] : List Value).toArray s 0 0 A) (F0 m 182 ls [.int y107]) := by
          intro y107 b108 H locs ls hW hF hl
          clear c95 p106
          exact e_I E hW rfl ⟨⟨_, rfl, trivial⟩, hF⟩ dX0_wordOf_182
        refine q_if_eq (tgt := 181) hx hb dX0_wordOf_174 (by decide) rfl (fun c110 => ?_) (fun c110 => ?_)
        · refine lv_iconst (v := 0) hx hb dX0_wordOf_181 (by decide) ?_
          exact J109 0 (by decide) _ _ _ hW hF (lv_sub hl [0, 1, 2, 3] rfl)
        · refine lv_iconst (v := 1) hx hb dX0_wordOf_177 (by decide) ?_
          refine lv_goto (tgt := 182) hx hb dX0_wordOf_178 (by decide) ?_
          exact J109 1 (by decide) _ _ _ hW hF (lv_sub hl [0, 1, 2, 3] rfl)
      by_cases c111 : u1.toInt = 269
      · refine lv_tableIn (tgt := 183) hx hb dX0_wordOf_42 (by omega) (by omega) (by rw [c111]; rfl) (by decide) ?_
        refine lv_aload_n hx hb dX0_wordOf_183 rfl (lv_at hl 0 rfl) ?_
        refine fg_RX0_12 E hW rh0 dX0_wordOf_184 (fun a112 m113 r114 => ?_)
        obtain rfl : a86 = a112 := (((fm_R g92 rh0 rfl).trans m87)).symm.trans m113
        refine fg_RX0_130 E hW r88 dX0_wordOf_187 (fun a115 m116 r117 => ?_)
        refine lv_iload_n hx hb dX0_wordOf_190 rfl (lv_at hl 2 rfl) ?_
        refine gl_347 E hW r117 ⟨by omega, by omega⟩ dX0_wordOf_191 (fun y118 m119 => ?_)
        refine lv_iconst (v := (-1)) hx hb dX0_wordOf_192 (by decide) ?_
        have J123 : ∀ (y121 : Int32) (b122 : (0 : Int) ≤ y121.toInt ∧ y121.toInt ≤ 1) (H : Heap) (locs : List Loc) (ls : Array Slot), WS G cI cJ cZ cD cR cT A kp L f90 s H locs → FM kp L ms_X0_wordOf f0 f90 → lv_has ls 4 [(0, .ref h0), (1, .int u1), (2, .int u2), (3, .int u3)] → W p l e ({ frames := 2, cells := 0, slots := 0, locals := 63 }) s m ([.ref h0, .int u1, .int u2, .int u3] : List Value).toArray below meth c H locs 0 0 (MQ below (QT (po_X0_wordOf kp L f0 h0 u1 u2 u3) G cI cJ cZ cD cR cT A kp L) ([.ref h0, .int u1, .int u2, .int u3] : List Value).toArray s 0 0 A) (F0 m 201 ls [.int y121]) := by
          intro y121 b122 H locs ls hW hF hl
          clear c95
          exact e_I E hW rfl ⟨⟨_, rfl, trivial⟩, hF⟩ dX0_wordOf_201
        refine q_icmp_ne (Y := -1) (tgt := 200) hx hb dX0_wordOf_193 (by decide) rfl rfl (fun c124 => ?_) (fun c124 => ?_)
        · refine lv_iconst (v := 1) hx hb dX0_wordOf_200 (by decide) ?_
          exact J123 1 (by decide) _ _ _ hW hF (lv_sub hl [0, 1, 2, 3] rfl)
        · refine lv_iconst (v := 0) hx hb dX0_wordOf_196 (by decide) ?_
          refine lv_goto (tgt := 201) hx hb dX0_wordOf_197 (by decide) ?_
          exact J123 0 (by decide) _ _ _ hW hF (lv_sub hl [0, 1, 2, 3] rfl)
      by_cases c125 : u1.toInt = 270
      · refine lv_tableIn (tgt := 202) hx hb dX0_wordOf_42 (by omega) (by omega) (by rw [c125]; rfl) (by decide) ?_
        refine lv_aload_n hx hb dX0_wordOf_202 rfl (lv_at hl 0 rfl) ?_
        refine fg_RX0_12 E hW rh0 dX0_wordOf_203 (fun a126 m127 r128 => ?_)
        obtain rfl : a86 = a126 := (((fm_R g92 rh0 rfl).trans m87)).symm.trans m127
        refine fg_RX0_277 E hW r88 dX0_wordOf_206 (fun a129 m130 r131 => ?_)
        refine lv_iload_n hx hb dX0_wordOf_209 rfl (lv_at hl 2 rfl) ?_
        refine gl_348 E hW r131 ⟨by omega, by omega⟩ dX0_wordOf_210 (fun y132 m133 => ?_)
        exact e_I E hW rfl ⟨⟨_, rfl, trivial⟩, hF⟩ dX0_wordOf_211
      by_cases c135 : u1.toInt = 271
      · refine lv_tableIn (tgt := 212) hx hb dX0_wordOf_42 (by omega) (by omega) (by rw [c135]; rfl) (by decide) ?_
        refine lv_aload_n hx hb dX0_wordOf_212 rfl (lv_at hl 0 rfl) ?_
        refine fg_RX0_21 E hW rh0 dX0_wordOf_213 (fun a136 m137 r138 => ?_)
        refine lv_iload_n hx hb dX0_wordOf_216 rfl (lv_at hl 2 rfl) ?_
        refine t_callV (As := [.int u2]) (rest := []) E hW (c_X1_isGrabbedBy l G cI cJ cZ cD cR cT kp L f90 hW.2.2.2 _ a136 u2 r138 (by omega)) r138 (by decide) rfl wk_X1_isGrabbedBy tw_732 rfl ⟨Nat.le_of_ble_eq_true rfl, Nat.le_of_ble_eq_true rfl⟩ ⟨rfl, rfl⟩ hl.1 rfl (Nat.le_of_ble_eq_true rfl) dX0_wordOf_217 ⟨Nat.le_of_ble_eq_true rfl, Nat.le_of_ble_eq_true rfl⟩ (fun v139 f140 H locs q141 hW => ?_)
        obtain ⟨⟨x143, rfl, p144⟩, g142⟩ := q141
        have hF := FM.tr hF g142 rfl
        have J147 : ∀ (y145 : Int32) (b146 : (0 : Int) ≤ y145.toInt ∧ y145.toInt ≤ 1) (H : Heap) (locs : List Loc) (ls : Array Slot), WS G cI cJ cZ cD cR cT A kp L f140 s H locs → FM kp L ms_X0_wordOf f0 f140 → lv_has ls 4 [(0, .ref h0), (1, .int u1), (2, .int u2), (3, .int u3)] → W p l e ({ frames := 2, cells := 0, slots := 0, locals := 63 }) s m ([.ref h0, .int u1, .int u2, .int u3] : List Value).toArray below meth c H locs 0 0 (MQ below (QT (po_X0_wordOf kp L f0 h0 u1 u2 u3) G cI cJ cZ cD cR cT A kp L) ([.ref h0, .int u1, .int u2, .int u3] : List Value).toArray s 0 0 A) (F0 m 228 ls [.int y145]) := by
          intro y145 b146 H locs ls hW hF hl
          clear c95 p144
          exact e_I E hW rfl ⟨⟨_, rfl, trivial⟩, hF⟩ dX0_wordOf_228
        refine q_if_eq (tgt := 227) hx hb dX0_wordOf_220 (by decide) rfl (fun c148 => ?_) (fun c148 => ?_)
        · refine lv_iconst (v := 0) hx hb dX0_wordOf_227 (by decide) ?_
          exact J147 0 (by decide) _ _ _ hW hF (lv_sub hl [0, 1, 2, 3] rfl)
        · refine lv_iconst (v := 1) hx hb dX0_wordOf_223 (by decide) ?_
          refine lv_goto (tgt := 228) hx hb dX0_wordOf_224 (by decide) ?_
          exact J147 1 (by decide) _ _ _ hW hF (lv_sub hl [0, 1, 2, 3] rfl)
      by_cases c149 : u1.toInt = 272
      · refine lv_tableIn (tgt := 229) hx hb dX0_wordOf_42 (by omega) (by omega) (by rw [c149]; rfl) (by decide) ?_
        refine lv_aload_n hx hb dX0_wordOf_229 rfl (lv_at hl 0 rfl) ?_
        refine fg_RX0_12 E hW rh0 dX0_wordOf_230 (fun a150 m151 r152 => ?_)
        obtain rfl : a86 = a150 := (((fm_R g92 rh0 rfl).trans m87)).symm.trans m151
        refine fg_RX0_213 E hW r88 dX0_wordOf_233 (fun a153 m154 r155 => ?_)
        refine lv_iload_n hx hb dX0_wordOf_236 rfl (lv_at hl 2 rfl) ?_
        refine gl_342 E hW r155 ⟨by omega, by omega⟩ dX0_wordOf_237 (fun y156 m157 => ?_)
        exact e_I E hW rfl ⟨⟨_, rfl, trivial⟩, hF⟩ dX0_wordOf_238
      by_cases c159 : u1.toInt = 273
      · refine lv_tableIn (tgt := 239) hx hb dX0_wordOf_42 (by omega) (by omega) (by rw [c159]; rfl) (by decide) ?_
        refine lv_aload_n hx hb dX0_wordOf_239 rfl (lv_at hl 0 rfl) ?_
        refine fg_RX0_12 E hW rh0 dX0_wordOf_240 (fun a160 m161 r162 => ?_)
        obtain rfl : a86 = a160 := (((fm_R g92 rh0 rfl).trans m87)).symm.trans m161
        refine fg_RX0_179 E hW r88 dX0_wordOf_243 (fun a163 m164 r165 => ?_)
        refine lv_iload_n hx hb dX0_wordOf_246 rfl (lv_at hl 2 rfl) ?_
        refine gl_345 E hW r165 ⟨by omega, by omega⟩ dX0_wordOf_247 (fun y166 m167 => ?_)
        exact e_I E hW rfl ⟨⟨_, rfl, trivial⟩, hF⟩ dX0_wordOf_248
      by_cases c169 : u1.toInt = 274
      · refine lv_tableIn (tgt := 249) hx hb dX0_wordOf_42 (by omega) (by omega) (by rw [c169]; rfl) (by decide) ?_
        refine lv_aload_n hx hb dX0_wordOf_249 rfl (lv_at hl 0 rfl) ?_
        refine fg_RX0_12 E hW rh0 dX0_wordOf_250 (fun a170 m171 r172 => ?_)
        obtain rfl : a86 = a170 := (((fm_R g92 rh0 rfl).trans m87)).symm.trans m171
        refine fg_RX0_348 E hW r88 dX0_wordOf_253 (fun a173 m174 r175 => ?_)
        refine lv_iload_n hx hb dX0_wordOf_256 rfl (lv_at hl 2 rfl) ?_
        refine gl_343 E hW r175 ⟨by omega, by omega⟩ dX0_wordOf_257 (fun y176 m177 => ?_)
        exact e_I E hW rfl ⟨⟨_, rfl, trivial⟩, hF⟩ dX0_wordOf_258
      by_cases c179 : u1.toInt = 275
      · refine lv_tableIn (tgt := 259) hx hb dX0_wordOf_42 (by omega) (by omega) (by rw [c179]; rfl) (by decide) ?_
        refine lv_aload_n hx hb dX0_wordOf_259 rfl (lv_at hl 0 rfl) ?_
        refine fg_RX0_12 E hW rh0 dX0_wordOf_260 (fun a180 m181 r182 => ?_)
        obtain rfl : a86 = a180 := (((fm_R g92 rh0 rfl).trans m87)).symm.trans m181
        refine fg_RX0_351 E hW r88 dX0_wordOf_263 (fun a183 m184 r185 => ?_)
        refine lv_iload_n hx hb dX0_wordOf_266 rfl (lv_at hl 2 rfl) ?_
        refine gl_341 E hW r185 ⟨by omega, by omega⟩ dX0_wordOf_267 (fun y186 m187 => ?_)
        exact e_I E hW rfl ⟨⟨_, rfl, trivial⟩, hF⟩ dX0_wordOf_268
      by_cases c189 : u1.toInt = 276
      · refine lv_tableIn (tgt := 269) hx hb dX0_wordOf_42 (by omega) (by omega) (by rw [c189]; rfl) (by decide) ?_
        refine lv_aload_n hx hb dX0_wordOf_269 rfl (lv_at hl 0 rfl) ?_
        refine fg_RX0_12 E hW rh0 dX0_wordOf_270 (fun a190 m191 r192 => ?_)
        obtain rfl : a86 = a190 := (((fm_R g92 rh0 rfl).trans m87)).symm.trans m191
        refine lv_iload_n hx hb dX0_wordOf_273 rfl (lv_at hl 2 rfl) ?_
        refine t_callV (As := [.int u2]) (rest := []) E hW (c_X4_kinOf l G cI cJ cZ cD cR cT kp L f90 hW.2.2.2 _ a86 u2 r88 (by omega)) r88 (by decide) rfl wk_X4_kinOf tw_736 rfl ⟨Nat.le_of_ble_eq_true rfl, Nat.le_of_ble_eq_true rfl⟩ ⟨rfl, rfl⟩ hl.1 rfl (Nat.le_of_ble_eq_true rfl) dX0_wordOf_274 ⟨Nat.le_of_ble_eq_true rfl, Nat.le_of_ble_eq_true rfl⟩ (fun v193 f194 H locs q195 hW => ?_)
        obtain ⟨⟨x197, rfl, p198⟩, g196⟩ := q195
        clear p198
        have hF := FM.tr hF g196 rfl
        exact e_I E hW rfl ⟨⟨_, rfl, trivial⟩, hF⟩ dX0_wordOf_277
      by_cases c199 : u1.toInt = 277
      · exfalso; omega
      by_cases c200 : u1.toInt = 278
      · exfalso; omega
      by_cases c201 : u1.toInt = 279
      · exfalso; omega
      by_cases c202 : u1.toInt = 280
      · exfalso; omega
      by_cases c203 : u1.toInt = 281
      · exfalso; omega
      by_cases c204 : u1.toInt = 282
      · exfalso; omega
      refine lv_tableOut (tgt := 278) hx hb dX0_wordOf_42 (by omega) (by decide) ?_
      refine lv_iconst (v := 0) hx hb dX0_wordOf_278 (by decide) ?_
      exact e_I E hW rfl ⟨⟨_, rfl, trivial⟩, hF⟩ dX0_wordOf_279
    · clear p94
      refine lv_goto (tgt := 39) hx hb dX0_wordOf_18 (by decide) ?_
      refine lv_iconst (v := 0) hx hb dX0_wordOf_39 (by decide) ?_
      exact e_I E hW rfl ⟨⟨_, rfl, trivial⟩, hF⟩ dX0_wordOf_40
def ms_X0_ask : List (Nat × Nat) := [(115, 0)]
def po_X0_ask (kp : Nat → Nat) (L : List Nat) (f0 : Nat → va_E) (h0 : Nat) (u1 : Nat) (u2 : Int32) (u3 : Int32) (u4 : Int32) : Option Value → (Nat → va_E) → Prop := fun v f => (∃ r : Int64, v = some (.long r) ∧ (True)) ∧ FM kp L ms_X0_ask f0 f
set_option maxHeartbeats 4000000 in
set_option maxRecDepth 100000 in
theorem c_X0_ask (l : Launch) (G : va_G) (cI cJ cZ cD cR cT : ClassId) (kp : Nat → Nat) (L : List Nat) (f0 : Nat → va_E) (hTH : TH cI cJ cZ cD cR cT kp L f0) (sz : Nat) (h0 : Nat) (u1 : Nat) (u2 : Int32) (u3 : Int32) (u4 : Int32) (rh0 : RK kp L h0 0) (ru1 : RK kp L u1 9) (pu2 : (0 : Int) ≤ u2.toInt ∧ u2.toInt ≤ 11) (pu3 : (-1 : Int) ≤ u3.toInt ∧ u3.toInt ≤ 39) (pu4 : (-1 : Int) ≤ u4.toInt ∧ u4.toInt ≤ 39) (hcl : u2.toInt < (oI (f0 u1) 1).toInt) : Met l yX0_ask (Cond.code yX0_ask cX0_ask 12 (some .long) :: wTab) ({ frames := 3, cells := 0, slots := 0, locals := 86 }) (va_Pc [.ref h0, .ref u1, .int u2, .int u3, .int u4] (PreW G (tys6 cI cJ cZ cD cR cT) (va_pl L f0) sz)) (QT (po_X0_ask kp L f0 h0 u1 u2 u3 u4) G cI cJ cZ cD cR cT (va_A (va_pl L f0) sz) kp L) 0 0 (va_A (va_pl L f0) sz) := by
  refine metT (by decide) (Nat.le_of_ble_eq_true rfl) hTH ?_
  intro p e s m below meth c A ls E hW hl
  obtain ⟨hx, hb, -, hml, hown, hts, -, -, -⟩ := id E
  have hF : FM kp L ms_X0_ask f0 f0 := FM.rf
  have hl : lv_has ls 12 [(0, .ref h0), (1, .ref u1), (2, .int u2), (3, .int u3), (4, .int u4)] := hl
  refine lv_iconst (v := 0) hx hb dX0_ask_0 (by decide) ?_
  refine lv_istore (lv' := [(5, .int 0), (0, .ref h0), (1, .ref u1), (2, .int u2), (3, .int u3), (4, .int u4)]) hx hb dX0_ask_1 hl (by decide) rfl (fun ls hl => ?_)
  refine lv_iconst (v := 0) hx hb dX0_ask_3 (by decide) ?_
  refine lv_istore (lv' := [(6, .int 0), (5, .int 0), (0, .ref h0), (1, .ref u1), (2, .int u2), (3, .int u3), (4, .int u4)]) hx hb dX0_ask_4 hl (by decide) rfl (fun ls hl => ?_)
  refine lv_aload_n hx hb dX0_ask_6 rfl (lv_at hl 2 rfl) ?_
  refine fg_RX0_57 E hW rh0 dX0_ask_7 (fun a1 m2 r3 => ?_)
  refine lv_iconst (v := 0) hx hb dX0_ask_10 (by decide) ?_
  refine lv_lconst (v := 0) hx hb dX0_ask_11 (by decide) ?_
  refine gs_115 E hW r3 (by decide) dX0_ask_12 (fun f4 H locs e5 n6 g7 hW => ?_)
  have hF := FM.tr hF g7 rfl
  refine lv_aload_n hx hb dX0_ask_13 rfl (lv_at hl 3 rfl) ?_
  refine fg_RX0_314 E hW ru1 dX0_ask_14 (fun a8 m9 r10 => ?_)
  refine lv_iload_n hx hb dX0_ask_17 rfl (lv_at hl 4 rfl) ?_
  refine gl_646 E hW r10 ⟨by omega, by omega⟩ dX0_ask_18 (fun y11 m12 => ?_)
  have b14 : 0 ≤ y11.toInt := si_start hW ru1 m9 ⟨by omega, by rw [fm_I hF ru1 rfl]; exact hcl⟩ m12
  refine lv_istore (lv' := [(7, .int y11), (6, .int 0), (5, .int 0), (0, .ref h0), (1, .ref u1), (2, .int u2), (3, .int u3), (4, .int u4)]) hx hb dX0_ask_19 hl (by decide) rfl (fun ls hl => ?_)
  have L5808 : ∀ (n : Nat), ∀ (f5800 : Nat → va_E) (y5803 : Int32) (y5805 : Int32) (y5806 : Int32) (m5801 : oR (f5800 h0) 15 = a1) (m5802 : oR (f5800 u1) 6 = a8) (b5804 : (0 : Int) ≤ y5803.toInt) (b5807 : (0 : Int) ≤ y5806.toInt ∧ y5806.toInt ≤ 64) (hm : (2147483648 : Int) - y5803.toInt ≤ n) (H : Heap) (locs : List Loc) (ls : Array Slot), WS G cI cJ cZ cD cR cT A kp L f5800 s H locs → FM kp L ms_X0_ask f0 f5800 → lv_has ls 12 [(7, .int y5803), (6, .int y5805), (5, .int y5806), (0, .ref h0), (1, .ref u1), (2, .int u2), (3, .int u3), (4, .int u4)] → W p l e ({ frames := 3, cells := 0, slots := 0, locals := 86 }) s m ([.ref h0, .ref u1, .int u2, .int u3, .int u4] : List Value).toArray below meth c H locs 0 0 (MQ below (QT (po_X0_ask kp L f0 h0 u1 u2 u3 u4) G cI cJ cZ cD cR cT A kp L) ([.ref h0, .ref u1, .int u2, .int u3, .int u4] : List Value).toArray s 0 0 A) (F0 m 21 ls []) := by
    intro n
    induction n with
    | zero =>
      intro f5800 y5803 y5805 y5806 m5801 m5802 b5804 b5807 hm H locs ls hW hF hl
      have hz := i32_b y5803
      exfalso; omega
    | succ n ih =>
      intro f5800 y5803 y5805 y5806 m5801 m5802 b5804 b5807 hm H locs ls hW hF hl
      clear b14
      have ih21 := ih
      refine lv_iload hx hb dX0_ask_21 (lv_at hl 0 rfl) ?_
      refine lv_aload_n hx hb dX0_ask_23 rfl (lv_at hl 4 rfl) ?_
      refine fg_RX0_317 E hW ru1 dX0_ask_24 (fun a5809 m5810 r5811 => ?_)
      refine lv_iload_n hx hb dX0_ask_27 rfl (lv_at hl 5 rfl) ?_
      refine gl_647 E hW r5811 ⟨by omega, by omega⟩ dX0_ask_28 (fun y5812 m5813 => ?_)
      refine q_icmp_ge (tgt := 320) hx hb dX0_ask_29 (by decide) rfl rfl (fun c5815 => ?_) (fun c5815 => ?_)
      · refine lv_aload_n hx hb dX0_ask_320 rfl (lv_at hl 3 rfl) ?_
        refine fg_RX0_57 E hW rh0 dX0_ask_321 (fun a5816 m5817 r5818 => ?_)
        obtain rfl : a1 = a5816 := (m5801).symm.trans m5817
        refine lv_iconst (v := 0) hx hb dX0_ask_324 (by decide) ?_
        refine gl_115 E hW r3 (by decide) dX0_ask_325 (fun y5819 _ => ?_)
        exact e_J E hW rfl ⟨⟨_, rfl, trivial⟩, hF⟩ dX0_ask_326
      · have hb5820 : y5803.toInt ≤ 2147483646 := by have := i32_b y5812; omega
        refine lv_iload hx hb dX0_ask_32 (lv_at hl 0 rfl) ?_
        refine lv_iload hx hb dX0_ask_34 (lv_at hl 1 rfl) ?_
        refine q_icmp_ge (tgt := 42) hx hb dX0_ask_36 (by decide) rfl rfl (fun c5821 => ?_) (fun c5821 => ?_)
        · refine lv_aload_n hx hb dX0_ask_42 rfl (lv_at hl 4 rfl) ?_
          refine fg_RX0_320 E hW ru1 dX0_ask_43 (fun a5822 m5823 r5824 => ?_)
          refine lv_iload hx hb dX0_ask_46 (lv_at hl 0 rfl) ?_
          refine gl_648 E hW r5824 (ix_op hW ru1 m5810 m5823 ⟨by omega, by rw [fm_I hF ru1 rfl]; exact hcl⟩ m5813 (by omega) (by omega)) dX0_ask_48 (fun y5825 m5826 => ?_)
          refine lv_istore (lv' := [(8, .int y5825), (7, .int y5803), (6, .int y5805), (5, .int y5806), (0, .ref h0), (1, .ref u1), (2, .int u2), (3, .int u3), (4, .int u4)]) hx hb dX0_ask_49 hl (by decide) rfl (fun ls hl => ?_)
          refine lv_iload hx hb dX0_ask_51 (lv_at hl 0 rfl) ?_
          refine lv_sipush (v := 301) hx hb dX0_ask_53 (by decide) ?_
          refine q_icmp_eq (Y := 301) (tgt := 75) hx hb dX0_ask_56 (by decide) rfl rfl (fun c5828 => ?_) (fun c5828 => ?_)
          · refine lv_iload hx hb dX0_ask_75 (lv_at hl 3 rfl) ?_
            refine lv_bipush (v := 64) hx hb dX0_ask_77 (by decide) ?_
            refine q_icmp_lt (Y := 64) (tgt := 86) hx hb dX0_ask_79 (by decide) rfl rfl (fun c5829 => ?_) (fun c5829 => ?_)
            · refine lv_aload_n hx hb dX0_ask_86 rfl (lv_at hl 4 rfl) ?_
              refine fg_RX0_57 E hW rh0 dX0_ask_87 (fun a5830 m5831 r5832 => ?_)
              obtain rfl : a1 = a5830 := (m5801).symm.trans m5831
              refine lv_iload hx hb dX0_ask_90 (lv_at hl 3 rfl) ?_
              refine lv_iload hx hb dX0_ask_92 (lv_at hl 0 rfl) ?_
              refine lv_sipush (v := 301) hx hb dX0_ask_94 (by decide) ?_
              refine q_icmp_ne (Y := 301) (tgt := 111) hx hb dX0_ask_97 (by decide) rfl rfl (fun c5842 => ?_) (fun c5842 => ?_)
              · exfalso; omega
              · refine lv_aload_n hx hb dX0_ask_100 rfl (lv_at hl 5 rfl) ?_
                refine fg_RX0_323 E hW ru1 dX0_ask_101 (fun a5843 m5844 r5845 => ?_)
                refine lv_iload hx hb dX0_ask_104 (lv_at hl 1 rfl) ?_
                refine gl_649 E hW r5845 (ix_arg hW ru1 m5810 m5844 ⟨by omega, by rw [fm_I hF ru1 rfl]; exact hcl⟩ m5813 (by omega) (by omega)) dX0_ask_106 (fun y5846 m5847 => ?_)
                refine q_i2l hx hb dX0_ask_107 rfl (fun x5849 h5850 => ?_)
                have hb5851 : -2147483648 ≤ x5849.toInt ∧ x5849.toInt ≤ 2147483647 := by have := i32_b y5846; omega
                refine lv_goto (tgt := 121) hx hb dX0_ask_108 (by decide) ?_
                refine gs_115 E hW r3 ⟨by omega, by omega⟩ dX0_ask_121 (fun f5852 H locs e5853 n5854 g5855 hW => ?_)
                have hF := FM.tr hF g5855 rfl
                refine q_iinc hx hb dX0_ask_122 hl (k := 3) rfl rfl rfl (by omega) (by decide) (fun i5856 ls h5857 hl => ?_)
                have hl : lv_has ls 12 [(5, .int i5856), (8, .int y5825), (7, .int y5803), (6, .int y5805), (0, .ref h0), (1, .ref u1), (2, .int u2), (3, .int u3), (4, .int u4)] := hl
                refine lv_goto (tgt := 314) hx hb dX0_ask_125 (by decide) ?_
                refine q_iinc hx hb dX0_ask_314 hl (k := 2) rfl rfl rfl (by omega) (by decide) (fun i5858 ls h5859 hl => ?_)
                have hl : lv_has ls 12 [(7, .int i5858), (5, .int i5856), (8, .int y5825), (6, .int y5805), (0, .ref h0), (1, .ref u1), (2, .int u2), (3, .int u3), (4, .int u4)] := hl
                refine lv_goto (tgt := 21) hx hb dX0_ask_317 (by decide) ?_
                exact ih21 f5852 i5858 y5805 i5856 ((fm_R g5855 rh0 rfl).trans m5831) ((fm_R g5855 ru1 rfl).trans m5802) (by omega) (by omega) (by omega) _ _ _ hW hF (lv_sub hl [0, 3, 1, 4, 5, 6, 7, 8] rfl)
            · refine lv_ldc2 (v := (-4000000000000000000)) hx hb hown (hts _ tw_721) dX0_ask_82 ?_
              exact e_J E hW rfl ⟨⟨_, rfl, trivial⟩, hF⟩ dX0_ask_85
          · refine lv_iload hx hb dX0_ask_59 (lv_at hl 0 rfl) ?_
            refine lv_sipush (v := 268) hx hb dX0_ask_61 (by decide) ?_
            refine q_icmp_lt (Y := 268) (tgt := 128) hx hb dX0_ask_64 (by decide) rfl rfl (fun c5860 => ?_) (fun c5860 => ?_)
            · refine lv_iload hx hb dX0_ask_128 (lv_at hl 3 rfl) ?_
              refine lv_iconst (v := 1) hx hb dX0_ask_130 (by decide) ?_
              refine q_icmp_ge (Y := 1) (tgt := 138) hx hb dX0_ask_131 (by decide) rfl rfl (fun c5861 => ?_) (fun c5861 => ?_)
              · refine lv_aload_n hx hb dX0_ask_138 rfl (lv_at hl 4 rfl) ?_
                refine fg_RX0_57 E hW rh0 dX0_ask_139 (fun a5862 m5863 r5864 => ?_)
                obtain rfl : a1 = a5862 := (m5801).symm.trans m5863
                refine lv_iload hx hb dX0_ask_142 (lv_at hl 3 rfl) ?_
                refine lv_iconst (v := 1) hx hb dX0_ask_144 (by decide) ?_
                refine q_isub (Y := 1) hx hb dX0_ask_145 rfl rfl (by omega) (fun x5865 h5866 => ?_)
                refine gl_115 E hW r3 ⟨by omega, by omega⟩ dX0_ask_146 (fun y5867 _ => ?_)
                refine lv_lconst (v := 0) hx hb dX0_ask_147 (by decide) ?_
                have J5870 : ∀ (y5868 : Int32) (b5869 : (0 : Int) ≤ y5868.toInt ∧ y5868.toInt ≤ 1) (H : Heap) (locs : List Loc) (ls : Array Slot), WS G cI cJ cZ cD cR cT A kp L f5800 s H locs → FM kp L ms_X0_ask f0 f5800 → lv_has ls 12 [(8, .int y5825), (7, .int y5803), (6, .int y5805), (5, .int y5806), (0, .ref h0), (1, .ref u1), (2, .int u2), (3, .int u3), (4, .int u4)] → W p l e ({ frames := 3, cells := 0, slots := 0, locals := 86 }) s m ([.ref h0, .ref u1, .int u2, .int u3, .int u4] : List Value).toArray below meth c H locs 0 0 (MQ below (QT (po_X0_ask kp L f0 h0 u1 u2 u3 u4) G cI cJ cZ cD cR cT A kp L) ([.ref h0, .ref u1, .int u2, .int u3, .int u4] : List Value).toArray s 0 0 A) (F0 m 157 ls [.int y5868]) := by
                  intro y5868 b5869 H locs ls hW hF hl
                  refine lv_istore (lv' := [(9, .int y5868), (8, .int y5825), (7, .int y5803), (6, .int y5805), (5, .int y5806), (0, .ref h0), (1, .ref u1), (2, .int u2), (3, .int u3), (4, .int u4)]) hx hb dX0_ask_157 hl (by decide) rfl (fun ls hl => ?_)
                  refine lv_iload hx hb dX0_ask_159 (lv_at hl 1 rfl) ?_
                  refine lv_sipush (v := 267) hx hb dX0_ask_161 (by decide) ?_
                  refine q_icmp_ne (Y := 267) (tgt := 189) hx hb dX0_ask_164 (by decide) rfl rfl (fun c5871 => ?_) (fun c5871 => ?_)
                  · refine lv_iload hx hb dX0_ask_189 (lv_at hl 1 rfl) ?_
                    refine lv_sipush (v := 259) hx hb dX0_ask_191 (by decide) ?_
                    refine q_icmp_ne (Y := 259) (tgt := 206) hx hb dX0_ask_194 (by decide) rfl rfl (fun c5872 => ?_) (fun c5872 => ?_)
                    · refine lv_iload hx hb dX0_ask_206 (lv_at hl 1 rfl) ?_
                      refine lv_sipush (v := 265) hx hb dX0_ask_208 (by decide) ?_
                      refine q_icmp_ne (Y := 265) (tgt := 219) hx hb dX0_ask_211 (by decide) rfl rfl (fun c5873 => ?_) (fun c5873 => ?_)
                      · refine lv_iload hx hb dX0_ask_219 (lv_at hl 1 rfl) ?_
                        refine lv_sipush (v := 266) hx hb dX0_ask_221 (by decide) ?_
                        refine q_icmp_ne (Y := 266) (tgt := 244) hx hb dX0_ask_224 (by decide) rfl rfl (fun c5874 => ?_) (fun c5874 => ?_)
                        · refine q_iinc hx hb dX0_ask_244 hl (k := 4) rfl rfl rfl (by omega) (by decide) (fun i5875 ls h5876 hl => ?_)
                          have hl : lv_has ls 12 [(5, .int i5875), (9, .int y5868), (8, .int y5825), (7, .int y5803), (6, .int y5805), (0, .ref h0), (1, .ref u1), (2, .int u2), (3, .int u3), (4, .int u4)] := hl
                          refine lv_iload hx hb dX0_ask_247 (lv_at hl 2 rfl) ?_
                          refine lv_sipush (v := 256) hx hb dX0_ask_249 (by decide) ?_
                          refine q_icmp_ge (Y := 256) (tgt := 314) hx hb dX0_ask_252 (by decide) rfl rfl (fun c5877 => ?_) (fun c5877 => ?_)
                          · refine q_iinc hx hb dX0_ask_314 hl (k := 3) rfl rfl rfl (by omega) (by decide) (fun i5878 ls h5879 hl => ?_)
                            have hl : lv_has ls 12 [(7, .int i5878), (5, .int i5875), (9, .int y5868), (8, .int y5825), (6, .int y5805), (0, .ref h0), (1, .ref u1), (2, .int u2), (3, .int u3), (4, .int u4)] := hl
                            refine lv_goto (tgt := 21) hx hb dX0_ask_317 (by decide) ?_
                            exact ih21 f5800 i5878 y5805 i5875 m5863 m5802 (by omega) (by omega) (by omega) _ _ _ hW hF (lv_sub hl [0, 4, 1, 5, 6, 7, 8, 9] rfl)
                          · refine lv_iload hx hb dX0_ask_255 (lv_at hl 0 rfl) ?_
                            refine lv_iconst (v := 1) hx hb dX0_ask_257 (by decide) ?_
                            refine q_icmp_ge (Y := 1) (tgt := 267) hx hb dX0_ask_258 (by decide) rfl rfl (fun c5880 => ?_) (fun c5880 => ?_)
                            · refine lv_iload hx hb dX0_ask_267 (lv_at hl 2 rfl) ?_
                              refine lv_aload_n hx hb dX0_ask_269 rfl (lv_at hl 5 rfl) ?_
                              refine fg_RX0_57 E hW rh0 dX0_ask_270 (fun a5881 m5882 r5883 => ?_)
                              obtain rfl : a1 = a5881 := (m5863).symm.trans m5882
                              refine lv_iload hx hb dX0_ask_273 (lv_at hl 0 rfl) ?_
                              refine lv_iconst (v := 1) hx hb dX0_ask_275 (by decide) ?_
                              refine q_isub (Y := 1) hx hb dX0_ask_276 rfl rfl (by omega) (fun x5884 h5885 => ?_)
                              refine gl_115 E hW r3 ⟨by omega, by omega⟩ dX0_ask_277 (fun y5886 _ => ?_)
                              refine lv_aload_n hx hb dX0_ask_278 rfl (lv_at hl 5 rfl) ?_
                              refine fg_RX0_57 E hW rh0 dX0_ask_279 (fun a5887 m5888 r5889 => ?_)
                              obtain rfl : a1 = a5887 := (m5882).symm.trans m5888
                              refine lv_iload hx hb dX0_ask_282 (lv_at hl 0 rfl) ?_
                              refine gl_115 E hW r3 ⟨by omega, by omega⟩ dX0_ask_284 (fun y5890 _ => ?_)
                              refine t_callS (As := [.int y5825, .long y5886, .long y5890]) (rest := []) E hW (c_X0_join l G cI cJ cZ cD cR cT kp L f5800 hW.2.2.2 _ y5825 y5886 y5890 (by omega)) wk_X0_join tw_737 rfl ⟨Nat.le_of_ble_eq_true rfl, Nat.le_of_ble_eq_true rfl⟩ ⟨rfl, rfl⟩ hl.1 rfl (Nat.le_of_ble_eq_true rfl) dX0_ask_285 ⟨Nat.le_of_ble_eq_true rfl, Nat.le_of_ble_eq_true rfl⟩ (fun v5891 f5892 H locs q5893 hW => ?_)
                              obtain ⟨⟨x5895, rfl, p5896⟩, g5894⟩ := q5893
                              clear p5896
                              have hF := FM.tr hF g5894 rfl
                              refine lv_lstore (lv' := [(10, .long x5895), (5, .int i5875), (9, .int y5868), (8, .int y5825), (7, .int y5803), (6, .int y5805), (0, .ref h0), (1, .ref u1), (2, .int u2), (3, .int u3), (4, .int u4)]) hx hb dX0_ask_288 hl (by decide) rfl (fun ls hl => ?_)
                              refine lv_lload hx hb dX0_ask_290 (lv_at hl 0 rfl) ?_
                              refine lv_ldc2 (v := (-4000000000000000000)) hx hb hown (hts _ tw_721) dX0_ask_292 ?_
                              refine q_lcmp_ne (Y := -4000000000000000000) (tgt := 303) hx hb dX0_ask_295 dX0_ask_296 (by decide) rfl rfl (fun c5897 => ?_) (fun c5897 => ?_)
                              · refine lv_aload_n hx hb dX0_ask_303 rfl (lv_at hl 6 rfl) ?_
                                refine fg_RX0_57 E hW rh0 dX0_ask_304 (fun a5898 m5899 r5900 => ?_)
                                obtain rfl : a1 = a5898 := (((fm_R g5894 rh0 rfl).trans m5888)).symm.trans m5899
                                refine lv_iload hx hb dX0_ask_307 (lv_at hl 1 rfl) ?_
                                refine lv_iconst (v := 1) hx hb dX0_ask_309 (by decide) ?_
                                refine q_isub (Y := 1) hx hb dX0_ask_310 rfl rfl (by omega) (fun x5901 h5902 => ?_)
                                refine lv_lload hx hb dX0_ask_311 (lv_at hl 0 rfl) ?_
                                refine gs_115 E hW r3 ⟨by omega, by omega⟩ dX0_ask_313 (fun f5903 H locs e5904 n5905 g5906 hW => ?_)
                                have hF := FM.tr hF g5906 rfl
                                refine q_iinc hx hb dX0_ask_314 hl (k := 4) rfl rfl rfl (by omega) (by decide) (fun i5907 ls h5908 hl => ?_)
                                have hl : lv_has ls 12 [(7, .int i5907), (10, .long x5895), (5, .int i5875), (9, .int y5868), (8, .int y5825), (6, .int y5805), (0, .ref h0), (1, .ref u1), (2, .int u2), (3, .int u3), (4, .int u4)] := hl
                                refine lv_goto (tgt := 21) hx hb dX0_ask_317 (by decide) ?_
                                exact ih21 f5903 i5907 y5805 i5875 ((fm_R g5906 rh0 rfl).trans m5899) ((fm_R g5906 ru1 rfl).trans ((fm_R g5894 ru1 rfl).trans m5802)) (by omega) (by omega) (by omega) _ _ _ hW hF (lv_sub hl [0, 5, 2, 6, 7, 8, 9, 10] rfl)
                              · refine lv_ldc2 (v := (-4000000000000000000)) hx hb hown (hts _ tw_721) dX0_ask_299 ?_
                                exact e_J E hW rfl ⟨⟨_, rfl, trivial⟩, hF⟩ dX0_ask_302
                            · refine lv_ldc2 (v := (-4000000000000000000)) hx hb hown (hts _ tw_721) dX0_ask_261 ?_
                              refine lv_goto (tgt := 288) hx hb dX0_ask_264 (by decide) ?_
                              refine lv_lstore (lv' := [(10, .long (-4000000000000000000)), (5, .int i5875), (9, .int y5868), (8, .int y5825), (7, .int y5803), (6, .int y5805), (0, .ref h0), (1, .ref u1), (2, .int u2), (3, .int u3), (4, .int u4)]) hx hb dX0_ask_288 hl (by decide) rfl (fun ls hl => ?_)
                              refine lv_lload hx hb dX0_ask_290 (lv_at hl 0 rfl) ?_
                              refine lv_ldc2 (v := (-4000000000000000000)) hx hb hown (hts _ tw_721) dX0_ask_292 ?_
                              refine q_lcmp_ne (X := -4000000000000000000) (Y := -4000000000000000000) (tgt := 303) hx hb dX0_ask_295 dX0_ask_296 (by decide) rfl rfl (fun c => absurd c (by decide)) (fun _ => ?_)
                              refine lv_ldc2 (v := (-4000000000000000000)) hx hb hown (hts _ tw_721) dX0_ask_299 ?_
                              exact e_J E hW rfl ⟨⟨_, rfl, trivial⟩, hF⟩ dX0_ask_302
                        · refine lv_iload hx hb dX0_ask_227 (lv_at hl 0 rfl) ?_
                          refine q_if_ne (tgt := 244) hx hb dX0_ask_229 (by decide) rfl (fun c5909 => ?_) (fun c5909 => ?_)
                          · refine q_iinc hx hb dX0_ask_244 hl (k := 4) rfl rfl rfl (by omega) (by decide) (fun i5910 ls h5911 hl => ?_)
                            have hl : lv_has ls 12 [(5, .int i5910), (9, .int y5868), (8, .int y5825), (7, .int y5803), (6, .int y5805), (0, .ref h0), (1, .ref u1), (2, .int u2), (3, .int u3), (4, .int u4)] := hl
                            refine lv_iload hx hb dX0_ask_247 (lv_at hl 2 rfl) ?_
                            refine lv_sipush (v := 256) hx hb dX0_ask_249 (by decide) ?_
                            refine q_icmp_ge (Y := 256) (tgt := 314) hx hb dX0_ask_252 (by decide) rfl rfl (fun c5912 => ?_) (fun c5912 => ?_)
                            · refine q_iinc hx hb dX0_ask_314 hl (k := 3) rfl rfl rfl (by omega) (by decide) (fun i5913 ls h5914 hl => ?_)
                              have hl : lv_has ls 12 [(7, .int i5913), (5, .int i5910), (9, .int y5868), (8, .int y5825), (6, .int y5805), (0, .ref h0), (1, .ref u1), (2, .int u2), (3, .int u3), (4, .int u4)] := hl
                              refine lv_goto (tgt := 21) hx hb dX0_ask_317 (by decide) ?_
                              exact ih21 f5800 i5913 y5805 i5910 m5863 m5802 (by omega) (by omega) (by omega) _ _ _ hW hF (lv_sub hl [0, 4, 1, 5, 6, 7, 8, 9] rfl)
                            · exfalso; omega
                          · refine lv_aload_n hx hb dX0_ask_232 rfl (lv_at hl 6 rfl) ?_
                            refine fg_RX0_323 E hW ru1 dX0_ask_233 (fun a5915 m5916 r5917 => ?_)
                            refine lv_iload hx hb dX0_ask_236 (lv_at hl 2 rfl) ?_
                            refine gl_649 E hW r5917 (ix_arg hW ru1 m5810 m5916 ⟨by omega, by rw [fm_I hF ru1 rfl]; exact hcl⟩ m5813 (by omega) (by omega)) dX0_ask_238 (fun y5918 m5919 => ?_)
                            refine lv_istore (lv' := [(6, .int y5918), (9, .int y5868), (8, .int y5825), (7, .int y5803), (5, .int y5806), (0, .ref h0), (1, .ref u1), (2, .int u2), (3, .int u3), (4, .int u4)]) hx hb dX0_ask_239 hl (by decide) rfl (fun ls hl => ?_)
                            refine lv_goto (tgt := 314) hx hb dX0_ask_241 (by decide) ?_
                            refine q_iinc hx hb dX0_ask_314 hl (k := 3) rfl rfl rfl (by omega) (by decide) (fun i5921 ls h5922 hl => ?_)
                            have hl : lv_has ls 12 [(7, .int i5921), (6, .int y5918), (9, .int y5868), (8, .int y5825), (5, .int y5806), (0, .ref h0), (1, .ref u1), (2, .int u2), (3, .int u3), (4, .int u4)] := hl
                            refine lv_goto (tgt := 21) hx hb dX0_ask_317 (by decide) ?_
                            exact ih21 f5800 i5921 y5918 y5806 m5863 m5802 (by omega) (by omega) (by omega) _ _ _ hW hF (lv_sub hl [0, 1, 4, 5, 6, 7, 8, 9] rfl)
                      · refine lv_iload hx hb dX0_ask_214 (lv_at hl 0 rfl) ?_
                        refine q_if_ne (tgt := 232) hx hb dX0_ask_216 (by decide) rfl (fun c5923 => ?_) (fun c5923 => ?_)
                        · refine lv_aload_n hx hb dX0_ask_232 rfl (lv_at hl 6 rfl) ?_
                          refine fg_RX0_323 E hW ru1 dX0_ask_233 (fun a5924 m5925 r5926 => ?_)
                          refine lv_iload hx hb dX0_ask_236 (lv_at hl 2 rfl) ?_
                          refine gl_649 E hW r5926 (ix_arg hW ru1 m5810 m5925 ⟨by omega, by rw [fm_I hF ru1 rfl]; exact hcl⟩ m5813 (by omega) (by omega)) dX0_ask_238 (fun y5927 m5928 => ?_)
                          refine lv_istore (lv' := [(6, .int y5927), (9, .int y5868), (8, .int y5825), (7, .int y5803), (5, .int y5806), (0, .ref h0), (1, .ref u1), (2, .int u2), (3, .int u3), (4, .int u4)]) hx hb dX0_ask_239 hl (by decide) rfl (fun ls hl => ?_)
                          refine lv_goto (tgt := 314) hx hb dX0_ask_241 (by decide) ?_
                          refine q_iinc hx hb dX0_ask_314 hl (k := 3) rfl rfl rfl (by omega) (by decide) (fun i5930 ls h5931 hl => ?_)
                          have hl : lv_has ls 12 [(7, .int i5930), (6, .int y5927), (9, .int y5868), (8, .int y5825), (5, .int y5806), (0, .ref h0), (1, .ref u1), (2, .int u2), (3, .int u3), (4, .int u4)] := hl
                          refine lv_goto (tgt := 21) hx hb dX0_ask_317 (by decide) ?_
                          exact ih21 f5800 i5930 y5927 y5806 m5863 m5802 (by omega) (by omega) (by omega) _ _ _ hW hF (lv_sub hl [0, 1, 4, 5, 6, 7, 8, 9] rfl)
                        · refine lv_iload hx hb dX0_ask_219 (lv_at hl 1 rfl) ?_
                          refine lv_sipush (v := 266) hx hb dX0_ask_221 (by decide) ?_
                          refine q_icmp_ne (Y := 266) (tgt := 244) hx hb dX0_ask_224 (by decide) rfl rfl (fun c5932 => ?_) (fun c5932 => ?_)
                          · refine q_iinc hx hb dX0_ask_244 hl (k := 4) rfl rfl rfl (by omega) (by decide) (fun i5933 ls h5934 hl => ?_)
                            have hl : lv_has ls 12 [(5, .int i5933), (9, .int y5868), (8, .int y5825), (7, .int y5803), (6, .int y5805), (0, .ref h0), (1, .ref u1), (2, .int u2), (3, .int u3), (4, .int u4)] := hl
                            refine lv_iload hx hb dX0_ask_247 (lv_at hl 2 rfl) ?_
                            refine lv_sipush (v := 256) hx hb dX0_ask_249 (by decide) ?_
                            refine q_icmp_ge (Y := 256) (tgt := 314) hx hb dX0_ask_252 (by decide) rfl rfl (fun c5935 => ?_) (fun c5935 => ?_)
                            · refine q_iinc hx hb dX0_ask_314 hl (k := 3) rfl rfl rfl (by omega) (by decide) (fun i5936 ls h5937 hl => ?_)
                              have hl : lv_has ls 12 [(7, .int i5936), (5, .int i5933), (9, .int y5868), (8, .int y5825), (6, .int y5805), (0, .ref h0), (1, .ref u1), (2, .int u2), (3, .int u3), (4, .int u4)] := hl
                              refine lv_goto (tgt := 21) hx hb dX0_ask_317 (by decide) ?_
                              exact ih21 f5800 i5936 y5805 i5933 m5863 m5802 (by omega) (by omega) (by omega) _ _ _ hW hF (lv_sub hl [0, 4, 1, 5, 6, 7, 8, 9] rfl)
                            · exfalso; omega
                          · exfalso; omega
                    · refine lv_iload hx hb dX0_ask_197 (lv_at hl 0 rfl) ?_
                      refine q_if_ne (tgt := 206) hx hb dX0_ask_199 (by decide) rfl (fun c5938 => ?_) (fun c5938 => ?_)
                      · refine lv_iload hx hb dX0_ask_206 (lv_at hl 1 rfl) ?_
                        refine lv_sipush (v := 265) hx hb dX0_ask_208 (by decide) ?_
                        refine q_icmp_ne (Y := 265) (tgt := 219) hx hb dX0_ask_211 (by decide) rfl rfl (fun c5939 => ?_) (fun c5939 => ?_)
                        · refine lv_iload hx hb dX0_ask_219 (lv_at hl 1 rfl) ?_
                          refine lv_sipush (v := 266) hx hb dX0_ask_221 (by decide) ?_
                          refine q_icmp_ne (Y := 266) (tgt := 244) hx hb dX0_ask_224 (by decide) rfl rfl (fun c5940 => ?_) (fun c5940 => ?_)
                          · refine q_iinc hx hb dX0_ask_244 hl (k := 4) rfl rfl rfl (by omega) (by decide) (fun i5941 ls h5942 hl => ?_)
                            have hl : lv_has ls 12 [(5, .int i5941), (9, .int y5868), (8, .int y5825), (7, .int y5803), (6, .int y5805), (0, .ref h0), (1, .ref u1), (2, .int u2), (3, .int u3), (4, .int u4)] := hl
                            refine lv_iload hx hb dX0_ask_247 (lv_at hl 2 rfl) ?_
                            refine lv_sipush (v := 256) hx hb dX0_ask_249 (by decide) ?_
                            refine q_icmp_ge (Y := 256) (tgt := 314) hx hb dX0_ask_252 (by decide) rfl rfl (fun c5943 => ?_) (fun c5943 => ?_)
                            · refine q_iinc hx hb dX0_ask_314 hl (k := 3) rfl rfl rfl (by omega) (by decide) (fun i5944 ls h5945 hl => ?_)
                              have hl : lv_has ls 12 [(7, .int i5944), (5, .int i5941), (9, .int y5868), (8, .int y5825), (6, .int y5805), (0, .ref h0), (1, .ref u1), (2, .int u2), (3, .int u3), (4, .int u4)] := hl
                              refine lv_goto (tgt := 21) hx hb dX0_ask_317 (by decide) ?_
                              exact ih21 f5800 i5944 y5805 i5941 m5863 m5802 (by omega) (by omega) (by omega) _ _ _ hW hF (lv_sub hl [0, 4, 1, 5, 6, 7, 8, 9] rfl)
                            · exfalso; omega
                          · exfalso; omega
                        · exfalso; omega
                      · refine lv_ldc2 (v := (-4000000000000000000)) hx hb hown (hts _ tw_721) dX0_ask_202 ?_
                        exact e_J E hW rfl ⟨⟨_, rfl, trivial⟩, hF⟩ dX0_ask_205
                  · refine lv_aload_n hx hb dX0_ask_167 rfl (lv_at hl 5 rfl) ?_
                    refine fg_RX0_57 E hW rh0 dX0_ask_168 (fun a5946 m5947 r5948 => ?_)
                    obtain rfl : a1 = a5946 := (m5863).symm.trans m5947
                    refine lv_iload hx hb dX0_ask_171 (lv_at hl 4 rfl) ?_
                    refine lv_iconst (v := 1) hx hb dX0_ask_173 (by decide) ?_
                    refine q_isub (Y := 1) hx hb dX0_ask_174 rfl rfl (by omega) (fun x5949 h5950 => ?_)
                    refine lv_iload hx hb dX0_ask_175 (lv_at hl 0 rfl) ?_
                    have J5953 : ∀ (y5951 : Int64) (b5952 : (0 : Int) ≤ y5951.toInt ∧ y5951.toInt ≤ 1) (H : Heap) (locs : List Loc) (ls : Array Slot), WS G cI cJ cZ cD cR cT A kp L f5800 s H locs → FM kp L ms_X0_ask f0 f5800 → lv_has ls 12 [(9, .int y5868), (8, .int y5825), (7, .int y5803), (6, .int y5805), (5, .int y5806), (0, .ref h0), (1, .ref u1), (2, .int u2), (3, .int u3), (4, .int u4)] → W p l e ({ frames := 3, cells := 0, slots := 0, locals := 86 }) s m ([.ref h0, .ref u1, .int u2, .int u3, .int u4] : List Value).toArray below meth c H locs 0 0 (MQ below (QT (po_X0_ask kp L f0 h0 u1 u2 u3 u4) G cI cJ cZ cD cR cT A kp L) ([.ref h0, .ref u1, .int u2, .int u3, .int u4] : List Value).toArray s 0 0 A) (F0 m 185 ls [.long y5951, .int x5949, .ref a1]) := by
                      intro y5951 b5952 H locs ls hW hF hl
                      refine gs_115 E hW r3 ⟨by omega, by omega⟩ dX0_ask_185 (fun f5954 H locs e5955 n5956 g5957 hW => ?_)
                      have hF := FM.tr hF g5957 rfl
                      refine lv_goto (tgt := 314) hx hb dX0_ask_186 (by decide) ?_
                      refine q_iinc hx hb dX0_ask_314 hl (k := 2) rfl rfl rfl (by omega) (by decide) (fun i5958 ls h5959 hl => ?_)
                      have hl : lv_has ls 12 [(7, .int i5958), (9, .int y5868), (8, .int y5825), (6, .int y5805), (5, .int y5806), (0, .ref h0), (1, .ref u1), (2, .int u2), (3, .int u3), (4, .int u4)] := hl
                      refine lv_goto (tgt := 21) hx hb dX0_ask_317 (by decide) ?_
                      exact ih21 f5954 i5958 y5805 y5806 ((fm_R g5957 rh0 rfl).trans m5947) ((fm_R g5957 ru1 rfl).trans m5802) (by omega) (by omega) (by omega) _ _ _ hW hF (lv_sub hl [0, 3, 4, 5, 6, 7, 8, 9] rfl)
                    refine q_if_eq (tgt := 184) hx hb dX0_ask_177 (by decide) rfl (fun c5960 => ?_) (fun c5960 => ?_)
                    · refine lv_lconst (v := 1) hx hb dX0_ask_184 (by decide) ?_
                      exact J5953 1 (by decide) _ _ _ hW hF (lv_sub hl [0, 1, 2, 3, 4, 5, 6, 7, 8, 9] rfl)
                    · refine lv_lconst (v := 0) hx hb dX0_ask_180 (by decide) ?_
                      refine lv_goto (tgt := 185) hx hb dX0_ask_181 (by decide) ?_
                      exact J5953 0 (by decide) _ _ _ hW hF (lv_sub hl [0, 1, 2, 3, 4, 5, 6, 7, 8, 9] rfl)
                refine q_lcmp_eq (Y := 0) (tgt := 156) hx hb dX0_ask_148 dX0_ask_149 (by decide) rfl rfl (fun c5961 => ?_) (fun c5961 => ?_)
                · refine lv_iconst (v := 0) hx hb dX0_ask_156 (by decide) ?_
                  exact J5870 0 (by decide) _ _ _ hW hF (lv_sub hl [0, 1, 2, 3, 4, 5, 6, 7, 8] rfl)
                · refine lv_iconst (v := 1) hx hb dX0_ask_152 (by decide) ?_
                  refine lv_goto (tgt := 157) hx hb dX0_ask_153 (by decide) ?_
                  exact J5870 1 (by decide) _ _ _ hW hF (lv_sub hl [0, 1, 2, 3, 4, 5, 6, 7, 8] rfl)
              · refine lv_ldc2 (v := (-4000000000000000000)) hx hb hown (hts _ tw_721) dX0_ask_134 ?_
                exact e_J E hW rfl ⟨⟨_, rfl, trivial⟩, hF⟩ dX0_ask_137
            · refine lv_iload hx hb dX0_ask_67 (lv_at hl 0 rfl) ?_
              refine lv_sipush (v := 282) hx hb dX0_ask_69 (by decide) ?_
              refine q_icmp_gt (Y := 282) (tgt := 128) hx hb dX0_ask_72 (by decide) rfl rfl (fun c5962 => ?_) (fun c5962 => ?_)
              · refine lv_iload hx hb dX0_ask_128 (lv_at hl 3 rfl) ?_
                refine lv_iconst (v := 1) hx hb dX0_ask_130 (by decide) ?_
                refine q_icmp_ge (Y := 1) (tgt := 138) hx hb dX0_ask_131 (by decide) rfl rfl (fun c5963 => ?_) (fun c5963 => ?_)
                · refine lv_aload_n hx hb dX0_ask_138 rfl (lv_at hl 4 rfl) ?_
                  refine fg_RX0_57 E hW rh0 dX0_ask_139 (fun a5964 m5965 r5966 => ?_)
                  obtain rfl : a1 = a5964 := (m5801).symm.trans m5965
                  refine lv_iload hx hb dX0_ask_142 (lv_at hl 3 rfl) ?_
                  refine lv_iconst (v := 1) hx hb dX0_ask_144 (by decide) ?_
                  refine q_isub (Y := 1) hx hb dX0_ask_145 rfl rfl (by omega) (fun x5967 h5968 => ?_)
                  refine gl_115 E hW r3 ⟨by omega, by omega⟩ dX0_ask_146 (fun y5969 _ => ?_)
                  refine lv_lconst (v := 0) hx hb dX0_ask_147 (by decide) ?_
                  have J5972 : ∀ (y5970 : Int32) (b5971 : (0 : Int) ≤ y5970.toInt ∧ y5970.toInt ≤ 1) (H : Heap) (locs : List Loc) (ls : Array Slot), WS G cI cJ cZ cD cR cT A kp L f5800 s H locs → FM kp L ms_X0_ask f0 f5800 → lv_has ls 12 [(8, .int y5825), (7, .int y5803), (6, .int y5805), (5, .int y5806), (0, .ref h0), (1, .ref u1), (2, .int u2), (3, .int u3), (4, .int u4)] → W p l e ({ frames := 3, cells := 0, slots := 0, locals := 86 }) s m ([.ref h0, .ref u1, .int u2, .int u3, .int u4] : List Value).toArray below meth c H locs 0 0 (MQ below (QT (po_X0_ask kp L f0 h0 u1 u2 u3 u4) G cI cJ cZ cD cR cT A kp L) ([.ref h0, .ref u1, .int u2, .int u3, .int u4] : List Value).toArray s 0 0 A) (F0 m 157 ls [.int y5970]) := by
                    intro y5970 b5971 H locs ls hW hF hl
                    refine lv_istore (lv' := [(9, .int y5970), (8, .int y5825), (7, .int y5803), (6, .int y5805), (5, .int y5806), (0, .ref h0), (1, .ref u1), (2, .int u2), (3, .int u3), (4, .int u4)]) hx hb dX0_ask_157 hl (by decide) rfl (fun ls hl => ?_)
                    refine lv_iload hx hb dX0_ask_159 (lv_at hl 1 rfl) ?_
                    refine lv_sipush (v := 267) hx hb dX0_ask_161 (by decide) ?_
                    refine q_icmp_ne (Y := 267) (tgt := 189) hx hb dX0_ask_164 (by decide) rfl rfl (fun c5973 => ?_) (fun c5973 => ?_)
                    · refine lv_iload hx hb dX0_ask_189 (lv_at hl 1 rfl) ?_
                      refine lv_sipush (v := 259) hx hb dX0_ask_191 (by decide) ?_
                      refine q_icmp_ne (Y := 259) (tgt := 206) hx hb dX0_ask_194 (by decide) rfl rfl (fun c5974 => ?_) (fun c5974 => ?_)
                      · refine lv_iload hx hb dX0_ask_206 (lv_at hl 1 rfl) ?_
                        refine lv_sipush (v := 265) hx hb dX0_ask_208 (by decide) ?_
                        refine q_icmp_ne (Y := 265) (tgt := 219) hx hb dX0_ask_211 (by decide) rfl rfl (fun c5975 => ?_) (fun c5975 => ?_)
                        · refine lv_iload hx hb dX0_ask_219 (lv_at hl 1 rfl) ?_
                          refine lv_sipush (v := 266) hx hb dX0_ask_221 (by decide) ?_
                          refine q_icmp_ne (Y := 266) (tgt := 244) hx hb dX0_ask_224 (by decide) rfl rfl (fun c5976 => ?_) (fun c5976 => ?_)
                          · refine q_iinc hx hb dX0_ask_244 hl (k := 4) rfl rfl rfl (by omega) (by decide) (fun i5977 ls h5978 hl => ?_)
                            have hl : lv_has ls 12 [(5, .int i5977), (9, .int y5970), (8, .int y5825), (7, .int y5803), (6, .int y5805), (0, .ref h0), (1, .ref u1), (2, .int u2), (3, .int u3), (4, .int u4)] := hl
                            refine lv_iload hx hb dX0_ask_247 (lv_at hl 2 rfl) ?_
                            refine lv_sipush (v := 256) hx hb dX0_ask_249 (by decide) ?_
                            refine q_icmp_ge (Y := 256) (tgt := 314) hx hb dX0_ask_252 (by decide) rfl rfl (fun c5979 => ?_) (fun c5979 => ?_)
                            · refine q_iinc hx hb dX0_ask_314 hl (k := 3) rfl rfl rfl (by omega) (by decide) (fun i5980 ls h5981 hl => ?_)
                              have hl : lv_has ls 12 [(7, .int i5980), (5, .int i5977), (9, .int y5970), (8, .int y5825), (6, .int y5805), (0, .ref h0), (1, .ref u1), (2, .int u2), (3, .int u3), (4, .int u4)] := hl
                              refine lv_goto (tgt := 21) hx hb dX0_ask_317 (by decide) ?_
                              exact ih21 f5800 i5980 y5805 i5977 m5965 m5802 (by omega) (by omega) (by omega) _ _ _ hW hF (lv_sub hl [0, 4, 1, 5, 6, 7, 8, 9] rfl)
                            · exfalso; omega
                          · exfalso; omega
                        · exfalso; omega
                      · exfalso; omega
                    · exfalso; omega
                  refine q_lcmp_eq (Y := 0) (tgt := 156) hx hb dX0_ask_148 dX0_ask_149 (by decide) rfl rfl (fun c5982 => ?_) (fun c5982 => ?_)
                  · refine lv_iconst (v := 0) hx hb dX0_ask_156 (by decide) ?_
                    exact J5972 0 (by decide) _ _ _ hW hF (lv_sub hl [0, 1, 2, 3, 4, 5, 6, 7, 8] rfl)
                  · refine lv_iconst (v := 1) hx hb dX0_ask_152 (by decide) ?_
                    refine lv_goto (tgt := 157) hx hb dX0_ask_153 (by decide) ?_
                    exact J5972 1 (by decide) _ _ _ hW hF (lv_sub hl [0, 1, 2, 3, 4, 5, 6, 7, 8] rfl)
                · refine lv_ldc2 (v := (-4000000000000000000)) hx hb hown (hts _ tw_721) dX0_ask_134 ?_
                  exact e_J E hW rfl ⟨⟨_, rfl, trivial⟩, hF⟩ dX0_ask_137
              · refine lv_iload hx hb dX0_ask_75 (lv_at hl 3 rfl) ?_
                refine lv_bipush (v := 64) hx hb dX0_ask_77 (by decide) ?_
                refine q_icmp_lt (Y := 64) (tgt := 86) hx hb dX0_ask_79 (by decide) rfl rfl (fun c5983 => ?_) (fun c5983 => ?_)
                · refine lv_aload_n hx hb dX0_ask_86 rfl (lv_at hl 4 rfl) ?_
                  refine fg_RX0_57 E hW rh0 dX0_ask_87 (fun a5984 m5985 r5986 => ?_)
                  obtain rfl : a1 = a5984 := (m5801).symm.trans m5985
                  refine lv_iload hx hb dX0_ask_90 (lv_at hl 3 rfl) ?_
                  refine lv_iload hx hb dX0_ask_92 (lv_at hl 0 rfl) ?_
                  refine lv_sipush (v := 301) hx hb dX0_ask_94 (by decide) ?_
                  refine q_icmp_ne (Y := 301) (tgt := 111) hx hb dX0_ask_97 (by decide) rfl rfl (fun c5996 => ?_) (fun c5996 => ?_)
                  · refine lv_aload_n hx hb dX0_ask_111 rfl (lv_at hl 4 rfl) ?_
                    refine lv_iload hx hb dX0_ask_112 (lv_at hl 0 rfl) ?_
                    refine lv_iload_n hx hb dX0_ask_114 rfl (lv_at hl 7 rfl) ?_
                    refine lv_iload hx hb dX0_ask_115 (lv_at hl 8 rfl) ?_
                    refine t_callV (As := [.int y5825, .int u3, .int u4]) (rest := [.int y5806, .ref a1]) E hW (c_X0_wordOf l G cI cJ cZ cD cR cT kp L f5800 hW.2.2.2 _ h0 y5825 u3 u4 rh0 (by omega) (by omega) (by omega)) rh0 (by decide) rfl wk_X0_wordOf tw_722 rfl ⟨Nat.le_of_ble_eq_true rfl, Nat.le_of_ble_eq_true rfl⟩ ⟨rfl, rfl⟩ hl.1 rfl (Nat.le_of_ble_eq_true rfl) dX0_ask_117 ⟨Nat.le_of_ble_eq_true rfl, Nat.le_of_ble_eq_true rfl⟩ (fun v5997 f5998 H locs q5999 hW => ?_)
                    obtain ⟨⟨x6001, rfl, p6002⟩, g6000⟩ := q5999
                    clear p6002
                    have hF := FM.tr hF g6000 rfl
                    refine q_i2l hx hb dX0_ask_120 rfl (fun x6003 h6004 => ?_)
                    have hb6005 : -2147483648 ≤ x6003.toInt ∧ x6003.toInt ≤ 2147483647 := by have := i32_b x6001; omega
                    refine gs_115 E hW r3 ⟨by omega, by omega⟩ dX0_ask_121 (fun f6006 H locs e6007 n6008 g6009 hW => ?_)
                    have hF := FM.tr hF g6009 rfl
                    refine q_iinc hx hb dX0_ask_122 hl (k := 3) rfl rfl rfl (by omega) (by decide) (fun i6010 ls h6011 hl => ?_)
                    have hl : lv_has ls 12 [(5, .int i6010), (8, .int y5825), (7, .int y5803), (6, .int y5805), (0, .ref h0), (1, .ref u1), (2, .int u2), (3, .int u3), (4, .int u4)] := hl
                    refine lv_goto (tgt := 314) hx hb dX0_ask_125 (by decide) ?_
                    refine q_iinc hx hb dX0_ask_314 hl (k := 2) rfl rfl rfl (by omega) (by decide) (fun i6012 ls h6013 hl => ?_)
                    have hl : lv_has ls 12 [(7, .int i6012), (5, .int i6010), (8, .int y5825), (6, .int y5805), (0, .ref h0), (1, .ref u1), (2, .int u2), (3, .int u3), (4, .int u4)] := hl
                    refine lv_goto (tgt := 21) hx hb dX0_ask_317 (by decide) ?_
                    exact ih21 f6006 i6012 y5805 i6010 ((fm_R g6009 rh0 rfl).trans ((fm_R g6000 rh0 rfl).trans m5985)) ((fm_R g6009 ru1 rfl).trans ((fm_R g6000 ru1 rfl).trans m5802)) (by omega) (by omega) (by omega) _ _ _ hW hF (lv_sub hl [0, 3, 1, 4, 5, 6, 7, 8] rfl)
                  · exfalso; omega
                · refine lv_ldc2 (v := (-4000000000000000000)) hx hb hown (hts _ tw_721) dX0_ask_82 ?_
                  exact e_J E hW rfl ⟨⟨_, rfl, trivial⟩, hF⟩ dX0_ask_85
        · have hb6014 : y5803.toInt ≤ 2147483646 := by have := i32_b y5805; omega
          refine lv_goto (tgt := 314) hx hb dX0_ask_39 (by decide) ?_
          refine q_iinc hx hb dX0_ask_314 hl (k := 0) rfl rfl rfl (by omega) (by decide) (fun i6015 ls h6016 hl => ?_)
          have hl : lv_has ls 12 [(7, .int i6015), (6, .int y5805), (5, .int y5806), (0, .ref h0), (1, .ref u1), (2, .int u2), (3, .int u3), (4, .int u4)] := hl
          refine lv_goto (tgt := 21) hx hb dX0_ask_317 (by decide) ?_
          exact ih21 f5800 i6015 y5805 y5806 m5801 m5802 (by omega) (by omega) (by omega) _ _ _ hW hF (lv_sub hl [0, 1, 2, 3, 4, 5, 6, 7] rfl)
  have hk6017 : (0 : Int32).toInt = 0 := rfl
  have hk6018 : (0 : Int32).toInt = 0 := rfl
  exact L5808 2147483648 f4 y11 0 0 ((fm_R g7 rh0 rfl).trans m2) m9 (by omega) (by decide) (by omega) _ _ _ hW hF (lv_sub hl [0, 1, 2, 3, 4, 5, 6, 7] rfl)
def ms_X0_anyHolds : List (Nat × Nat) := [(115, 0)]
def po_X0_anyHolds (kp : Nat → Nat) (L : List Nat) (f0 : Nat → va_E) (h0 : Nat) (u1 : Int32) (u2 : Int32) (u3 : Int32) : Option Value → (Nat → va_E) → Prop := fun v f => (∃ r : Int32, v = some (.int r) ∧ ((0 : Int) ≤ r.toInt ∧ r.toInt ≤ 1)) ∧ FM kp L ms_X0_anyHolds f0 f
set_option maxHeartbeats 4000000 in
set_option maxRecDepth 100000 in
theorem c_X0_anyHolds (l : Launch) (G : va_G) (cI cJ cZ cD cR cT : ClassId) (kp : Nat → Nat) (L : List Nat) (f0 : Nat → va_E) (hTH : TH cI cJ cZ cD cR cT kp L f0) (sz : Nat) (h0 : Nat) (u1 : Int32) (u2 : Int32) (u3 : Int32) (rh0 : RK kp L h0 0) (pu1 : (262 : Int) ≤ u1.toInt ∧ u1.toInt ≤ 264) (pu2 : (0 : Int) ≤ u2.toInt ∧ u2.toInt ≤ 39) (pu3 : (-1 : Int) ≤ u3.toInt ∧ u3.toInt ≤ 39) : Met l yX0_anyHolds (Cond.code yX0_anyHolds cX0_anyHolds 7 (some .boolean) :: wTab) ({ frames := 4, cells := 0, slots := 0, locals := 117 }) (va_Pc [.ref h0, .int u1, .int u2, .int u3] (PreW G (tys6 cI cJ cZ cD cR cT) (va_pl L f0) sz)) (QT (po_X0_anyHolds kp L f0 h0 u1 u2 u3) G cI cJ cZ cD cR cT (va_A (va_pl L f0) sz) kp L) 0 0 (va_A (va_pl L f0) sz) := by
  refine metT (by decide) (Nat.le_of_ble_eq_true rfl) hTH ?_
  intro p e s m below meth c A ls E hW hl
  obtain ⟨hx, hb, -, hml, hown, hts, -, -, -⟩ := id E
  have hF : FM kp L ms_X0_anyHolds f0 f0 := FM.rf
  have hl : lv_has ls 7 [(0, .ref h0), (1, .int u1), (2, .int u2), (3, .int u3)] := hl
  refine lv_iconst (v := 0) hx hb dX0_anyHolds_0 (by decide) ?_
  refine lv_istore (lv' := [(4, .int 0), (0, .ref h0), (1, .int u1), (2, .int u2), (3, .int u3)]) hx hb dX0_anyHolds_1 hl (by decide) rfl (fun ls hl => ?_)
  have L8948 : ∀ (n : Nat), ∀ (f8945 : Nat → va_E) (y8946 : Int32) (b8947 : (0 : Int) ≤ y8946.toInt ∧ y8946.toInt ≤ 20) (hm : (21 : Int) - y8946.toInt ≤ n) (H : Heap) (locs : List Loc) (ls : Array Slot), WS G cI cJ cZ cD cR cT A kp L f8945 s H locs → FM kp L ms_X0_anyHolds f0 f8945 → lv_has ls 7 [(4, .int y8946), (0, .ref h0), (1, .int u1), (2, .int u2), (3, .int u3)] → W p l e ({ frames := 4, cells := 0, slots := 0, locals := 117 }) s m ([.ref h0, .int u1, .int u2, .int u3] : List Value).toArray below meth c H locs 0 0 (MQ below (QT (po_X0_anyHolds kp L f0 h0 u1 u2 u3) G cI cJ cZ cD cR cT A kp L) ([.ref h0, .int u1, .int u2, .int u3] : List Value).toArray s 0 0 A) (F0 m 3 ls []) := by
    intro n
    induction n with
    | zero =>
      intro f8945 y8946 b8947 hm H locs ls hW hF hl
      have hz := i32_b y8946
      exfalso; omega
    | succ n ih =>
      intro f8945 y8946 b8947 hm H locs ls hW hF hl
      have ih3 := ih
      refine lv_iload hx hb dX0_anyHolds_3 (lv_at hl 0 rfl) ?_
      refine lv_aload_n hx hb dX0_anyHolds_5 rfl (lv_at hl 1 rfl) ?_
      refine fg_RX0_42 E hW rh0 dX0_anyHolds_6 (fun a8949 m8950 r8951 => ?_)
      refine fg_RX0_286 E hW r8951 dX0_anyHolds_9 (fun y8952 m8953 b8954 => ?_)
      refine q_icmp_ge (tgt := 102) hx hb dX0_anyHolds_12 (by decide) rfl rfl (fun c8955 => ?_) (fun c8955 => ?_)
      · refine lv_iconst (v := 0) hx hb dX0_anyHolds_102 (by decide) ?_
        exact e_Z E hW rfl (by decide) ⟨⟨_, rfl, (by have hk : (0 : Int32).toInt = 0 := rfl; first | decide | omega)⟩, hF⟩ dX0_anyHolds_103
      · refine lv_aload_n hx hb dX0_anyHolds_15 rfl (lv_at hl 1 rfl) ?_
        refine fg_RX0_42 E hW rh0 dX0_anyHolds_16 (fun a8956 m8957 r8958 => ?_)
        obtain rfl : a8949 = a8956 := (m8950).symm.trans m8957
        refine fg_RX0_287 E hW r8951 dX0_anyHolds_19 (fun a8959 m8960 r8961 => ?_)
        refine lv_iload hx hb dX0_anyHolds_22 (lv_at hl 0 rfl) ?_
        refine gl_221 E hW r8961 ⟨by omega, by omega⟩ dX0_anyHolds_24 (fun o8962 m8964 k8963 => ?_)
        rcases o8962 with _ | a8965
        · have hl : lv_has ls 7 [(4, .int y8946), (0, .ref h0), (1, .int u1), (2, .int u2), (3, .int u3)] := hl
          show W p l e ({ frames := 4, cells := 0, slots := 0, locals := 117 }) s m ([.ref h0, .int u1, .int u2, .int u3] : List Value).toArray below meth c _ _ 0 0 (MQ below (QT (po_X0_anyHolds kp L f0 h0 u1 u2 u3) G cI cJ cZ cD cR cT A kp L) ([.ref h0, .int u1, .int u2, .int u3] : List Value).toArray s 0 0 A) (F0 m 25 ls [.null])
          refine lv_astoreN (lv' := [(5, .null), (4, .int y8946), (0, .ref h0), (1, .int u1), (2, .int u2), (3, .int u3)]) hx hb dX0_anyHolds_25 hl (by decide) rfl (fun ls hl => ?_)
          refine lv_iconst (v := 0) hx hb dX0_anyHolds_27 (by decide) ?_
          refine lv_istore (lv' := [(6, .int 0), (5, .null), (4, .int y8946), (0, .ref h0), (1, .int u1), (2, .int u2), (3, .int u3)]) hx hb dX0_anyHolds_28 hl (by decide) rfl (fun ls hl => ?_)
          have L8979 : ∀ (n : Nat), ∀ (f8973 : Nat → va_E) (y8977 : Int32) (m8974 : oI (f8973 a8949) 0 = y8952) (m8975 : oR (f8973 a8949) 1 = a8959) (m8976 : oR (f8973 h0) 4 = a8949) (b8978 : (0 : Int) ≤ y8977.toInt ∧ y8977.toInt ≤ 0) (hm : (1 : Int) ≤ n) (H : Heap) (locs : List Loc) (ls : Array Slot), WS G cI cJ cZ cD cR cT A kp L f8973 s H locs → FM kp L ms_X0_anyHolds f0 f8973 → lv_has ls 7 [(6, .int y8977), (5, .null), (4, .int y8946), (0, .ref h0), (1, .int u1), (2, .int u2), (3, .int u3)] → W p l e ({ frames := 4, cells := 0, slots := 0, locals := 117 }) s m ([.ref h0, .int u1, .int u2, .int u3] : List Value).toArray below meth c H locs 0 0 (MQ below (QT (po_X0_anyHolds kp L f0 h0 u1 u2 u3) G cI cJ cZ cD cR cT A kp L) ([.ref h0, .int u1, .int u2, .int u3] : List Value).toArray s 0 0 A) (F0 m 30 ls []) := by
            intro n
            induction n with
            | zero =>
              intro f8973 y8977 m8974 m8975 m8976 b8978 hm H locs ls hW hF hl
              exfalso; omega
            | succ n ih =>
              intro f8973 y8977 m8974 m8975 m8976 b8978 hm H locs ls hW hF hl
              have ih30 := ih
              refine lv_aloadN hx hb dX0_anyHolds_30 (lv_at hl 1 rfl) ?_
              refine lv_ifnullN (tgt := 96) hx hb dX0_anyHolds_32 (by decide) ?_
              refine q_iinc hx hb dX0_anyHolds_96 hl (k := 2) rfl rfl rfl (by omega) (by decide) (fun i8980 ls h8981 hl => ?_)
              have hl : lv_has ls 7 [(4, .int i8980), (6, .int y8977), (5, .null), (0, .ref h0), (1, .int u1), (2, .int u2), (3, .int u3)] := hl
              refine lv_goto (tgt := 3) hx hb dX0_anyHolds_99 (by decide) ?_
              exact ih3 f8973 i8980 (by omega) (by omega) _ _ _ hW hF (lv_sub hl [0, 3, 4, 5, 6] rfl)
          have hk8982 : (0 : Int32).toInt = 0 := rfl
          exact L8979 1 f8945 0 m8953 m8960 m8957 (by decide) (by omega) _ _ _ hW hF (lv_sub hl [0, 1, 2, 3, 4, 5, 6] rfl)
        · have r8966 : RK kp L a8965 9 := k8963 _ rfl
          have hl : lv_has ls 7 [(4, .int y8946), (0, .ref h0), (1, .int u1), (2, .int u2), (3, .int u3)] := hl
          show W p l e ({ frames := 4, cells := 0, slots := 0, locals := 117 }) s m ([.ref h0, .int u1, .int u2, .int u3] : List Value).toArray below meth c _ _ 0 0 (MQ below (QT (po_X0_anyHolds kp L f0 h0 u1 u2 u3) G cI cJ cZ cD cR cT A kp L) ([.ref h0, .int u1, .int u2, .int u3] : List Value).toArray s 0 0 A) (F0 m 25 ls [.ref a8965])
          refine lv_astore (lv' := [(5, .ref a8965), (4, .int y8946), (0, .ref h0), (1, .int u1), (2, .int u2), (3, .int u3)]) hx hb dX0_anyHolds_25 hl (by decide) rfl (fun ls hl => ?_)
          refine lv_iconst (v := 0) hx hb dX0_anyHolds_27 (by decide) ?_
          refine lv_istore (lv' := [(6, .int 0), (5, .ref a8965), (4, .int y8946), (0, .ref h0), (1, .int u1), (2, .int u2), (3, .int u3)]) hx hb dX0_anyHolds_28 hl (by decide) rfl (fun ls hl => ?_)
          have L9469 : ∀ (n : Nat), ∀ (f9463 : Nat → va_E) (y9467 : Int32) (m9464 : oI (f9463 a8949) 0 = y8952) (m9465 : oR (f9463 a8949) 1 = a8959) (m9466 : oR (f9463 h0) 4 = a8949) (b9468 : (0 : Int) ≤ y9467.toInt ∧ y9467.toInt ≤ 12) (hm : (13 : Int) - y9467.toInt ≤ n) (H : Heap) (locs : List Loc) (ls : Array Slot), WS G cI cJ cZ cD cR cT A kp L f9463 s H locs → FM kp L ms_X0_anyHolds f0 f9463 → lv_has ls 7 [(6, .int y9467), (5, .ref a8965), (4, .int y8946), (0, .ref h0), (1, .int u1), (2, .int u2), (3, .int u3)] → W p l e ({ frames := 4, cells := 0, slots := 0, locals := 117 }) s m ([.ref h0, .int u1, .int u2, .int u3] : List Value).toArray below meth c H locs 0 0 (MQ below (QT (po_X0_anyHolds kp L f0 h0 u1 u2 u3) G cI cJ cZ cD cR cT A kp L) ([.ref h0, .int u1, .int u2, .int u3] : List Value).toArray s 0 0 A) (F0 m 30 ls []) := by
            intro n
            induction n with
            | zero =>
              intro f9463 y9467 m9464 m9465 m9466 b9468 hm H locs ls hW hF hl
              have hz := i32_b y9467
              exfalso; omega
            | succ n ih =>
              intro f9463 y9467 m9464 m9465 m9466 b9468 hm H locs ls hW hF hl
              have ih30 := ih
              refine lv_aload hx hb dX0_anyHolds_30 (lv_at hl 1 rfl) ?_
              refine lv_ifnull hx hb dX0_anyHolds_32 ?_
              refine lv_iload hx hb dX0_anyHolds_35 (lv_at hl 0 rfl) ?_
              refine lv_aload hx hb dX0_anyHolds_37 (lv_at hl 1 rfl) ?_
              refine fg_RX0_291 E hW r8966 dX0_anyHolds_39 (fun y9470 m9471 b9472 => ?_)
              refine q_icmp_ge (tgt := 96) hx hb dX0_anyHolds_42 (by decide) rfl rfl (fun c9473 => ?_) (fun c9473 => ?_)
              · refine q_iinc hx hb dX0_anyHolds_96 hl (k := 2) rfl rfl rfl (by omega) (by decide) (fun i9474 ls h9475 hl => ?_)
                have hl : lv_has ls 7 [(4, .int i9474), (6, .int y9467), (5, .ref a8965), (0, .ref h0), (1, .int u1), (2, .int u2), (3, .int u3)] := hl
                refine lv_goto (tgt := 3) hx hb dX0_anyHolds_99 (by decide) ?_
                exact ih3 f9463 i9474 (by omega) (by omega) _ _ _ hW hF (lv_sub hl [0, 3, 4, 5, 6] rfl)
              · refine lv_aload hx hb dX0_anyHolds_45 (lv_at hl 1 rfl) ?_
                refine fg_RX0_296 E hW r8966 dX0_anyHolds_47 (fun a9476 m9477 r9478 => ?_)
                refine lv_iload hx hb dX0_anyHolds_50 (lv_at hl 0 rfl) ?_
                refine gl_643 E hW r9478 ⟨by omega, by omega⟩ dX0_anyHolds_52 (fun y9479 m9480 => ?_)
                refine lv_iload_n hx hb dX0_anyHolds_53 rfl (lv_at hl 4 rfl) ?_
                refine q_icmp_ne (tgt := 90) hx hb dX0_anyHolds_54 (by decide) rfl rfl (fun c9482 => ?_) (fun c9482 => ?_)
                · refine q_iinc hx hb dX0_anyHolds_90 hl (k := 0) rfl rfl rfl (by omega) (by decide) (fun i9483 ls h9484 hl => ?_)
                  have hl : lv_has ls 7 [(6, .int i9483), (5, .ref a8965), (4, .int y8946), (0, .ref h0), (1, .int u1), (2, .int u2), (3, .int u3)] := hl
                  refine lv_goto (tgt := 30) hx hb dX0_anyHolds_93 (by decide) ?_
                  exact ih30 f9463 i9483 m9464 m9465 m9466 (by omega) (by omega) _ _ _ hW hF (lv_sub hl [0, 1, 2, 3, 4, 5, 6] rfl)
                · refine lv_aload_n hx hb dX0_anyHolds_57 rfl (lv_at hl 3 rfl) ?_
                  refine fg_RX0_42 E hW rh0 dX0_anyHolds_58 (fun a9485 m9486 r9487 => ?_)
                  obtain rfl : a8949 = a9485 := (m9466).symm.trans m9486
                  refine lv_iload hx hb dX0_anyHolds_61 (lv_at hl 2 rfl) ?_
                  refine lv_iload hx hb dX0_anyHolds_63 (lv_at hl 0 rfl) ?_
                  refine t_callV (As := [.int y8946, .int y9467]) (rest := []) E hW (c_X2_isInForce l G cI cJ cZ cD cR cT kp L f9463 hW.2.2.2 _ a8949 y8946 y9467 r8951 (by omega) (by omega)) r8951 (by decide) rfl wk_X2_isInForce tw_716 rfl ⟨Nat.le_of_ble_eq_true rfl, Nat.le_of_ble_eq_true rfl⟩ ⟨rfl, rfl⟩ hl.1 rfl (Nat.le_of_ble_eq_true rfl) dX0_anyHolds_65 ⟨Nat.le_of_ble_eq_true rfl, Nat.le_of_ble_eq_true rfl⟩ (fun v9488 f9489 H locs q9490 hW => ?_)
                  obtain ⟨⟨x9492, rfl, p9493⟩, g9491⟩ := q9490
                  have hF := FM.tr hF g9491 rfl
                  refine q_if_eq (tgt := 90) hx hb dX0_anyHolds_68 (by decide) rfl (fun c9494 => ?_) (fun c9494 => ?_)
                  · refine q_iinc hx hb dX0_anyHolds_90 hl (k := 0) rfl rfl rfl (by omega) (by decide) (fun i9495 ls h9496 hl => ?_)
                    have hl : lv_has ls 7 [(6, .int i9495), (5, .ref a8965), (4, .int y8946), (0, .ref h0), (1, .int u1), (2, .int u2), (3, .int u3)] := hl
                    refine lv_goto (tgt := 30) hx hb dX0_anyHolds_93 (by decide) ?_
                    exact ih30 f9489 i9495 ((fm_I g9491 r8951 rfl).trans m9464) ((fm_R g9491 r8951 rfl).trans m9465) ((fm_R g9491 rh0 rfl).trans m9486) (by omega) (by omega) _ _ _ hW hF (lv_sub hl [0, 1, 2, 3, 4, 5, 6] rfl)
                  · refine lv_aload_n hx hb dX0_anyHolds_71 rfl (lv_at hl 3 rfl) ?_
                    refine lv_aload hx hb dX0_anyHolds_72 (lv_at hl 1 rfl) ?_
                    refine lv_iload hx hb dX0_anyHolds_74 (lv_at hl 0 rfl) ?_
                    refine lv_iload_n hx hb dX0_anyHolds_76 rfl (lv_at hl 5 rfl) ?_
                    refine lv_iload_n hx hb dX0_anyHolds_77 rfl (lv_at hl 6 rfl) ?_
                    refine t_callV (As := [.ref a8965, .int y9467, .int u2, .int u3]) (rest := []) E hW (c_X0_ask l G cI cJ cZ cD cR cT kp L f9489 hW.2.2.2 _ h0 a8965 y9467 u2 u3 rh0 r8966 (by omega) (by omega) (by omega) (by rw [((fm_I g9491 r8966 rfl).trans m9471)]; omega)) rh0 (by decide) rfl wk_X0_ask tw_717 rfl ⟨Nat.le_of_ble_eq_true rfl, Nat.le_of_ble_eq_true rfl⟩ ⟨rfl, rfl⟩ hl.1 rfl (Nat.le_of_ble_eq_true rfl) dX0_anyHolds_78 ⟨Nat.le_of_ble_eq_true rfl, Nat.le_of_ble_eq_true rfl⟩ (fun v9497 f9498 H locs q9499 hW => ?_)
                    obtain ⟨⟨x9501, rfl, p9502⟩, g9500⟩ := q9499
                    clear p9502
                    have hF := FM.tr hF g9500 rfl
                    refine lv_ldc2 (v := (-4000000000000000000)) hx hb hown (hts _ tw_721) dX0_anyHolds_81 ?_
                    refine q_lcmp_eq (Y := -4000000000000000000) (tgt := 90) hx hb dX0_anyHolds_84 dX0_anyHolds_85 (by decide) rfl rfl (fun c9503 => ?_) (fun c9503 => ?_)
                    · refine q_iinc hx hb dX0_anyHolds_90 hl (k := 0) rfl rfl rfl (by omega) (by decide) (fun i9504 ls h9505 hl => ?_)
                      have hl : lv_has ls 7 [(6, .int i9504), (5, .ref a8965), (4, .int y8946), (0, .ref h0), (1, .int u1), (2, .int u2), (3, .int u3)] := hl
                      refine lv_goto (tgt := 30) hx hb dX0_anyHolds_93 (by decide) ?_
                      exact ih30 f9498 i9504 ((fm_I g9500 r8951 rfl).trans ((fm_I g9491 r8951 rfl).trans m9464)) ((fm_R g9500 r8951 rfl).trans ((fm_R g9491 r8951 rfl).trans m9465)) ((fm_R g9500 rh0 rfl).trans ((fm_R g9491 rh0 rfl).trans m9486)) (by omega) (by omega) _ _ _ hW hF (lv_sub hl [0, 1, 2, 3, 4, 5, 6] rfl)
                    · refine lv_iconst (v := 1) hx hb dX0_anyHolds_88 (by decide) ?_
                      exact e_Z E hW rfl (by decide) ⟨⟨_, rfl, (by have hk : (1 : Int32).toInt = 1 := rfl; first | decide | omega)⟩, hF⟩ dX0_anyHolds_89
          have hk9506 : (0 : Int32).toInt = 0 := rfl
          exact L9469 13 f8945 0 m8953 m8960 m8957 (by decide) (by omega) _ _ _ hW hF (lv_sub hl [0, 1, 2, 3, 4, 5, 6] rfl)
  have hk9507 : (0 : Int32).toInt = 0 := rfl
  exact L8948 21 f0 0 (by decide) (by omega) _ _ _ hW hF (lv_sub hl [0, 1, 2, 3, 4] rfl)
def ms_X0_clauseHolds : List (Nat × Nat) := [(115, 0)]
def po_X0_clauseHolds (kp : Nat → Nat) (L : List Nat) (f0 : Nat → va_E) (h0 : Nat) (u1 : Int32) (u2 : Int32) (u3 : Int32) (u4 : Int32) : Option Value → (Nat → va_E) → Prop := fun v f => (∃ r : Int32, v = some (.int r) ∧ ((0 : Int) ≤ r.toInt ∧ r.toInt ≤ 1)) ∧ FM kp L ms_X0_clauseHolds f0 f
set_option maxHeartbeats 4000000 in
set_option maxRecDepth 100000 in
theorem c_X0_clauseHolds (l : Launch) (G : va_G) (cI cJ cZ cD cR cT : ClassId) (kp : Nat → Nat) (L : List Nat) (f0 : Nat → va_E) (hTH : TH cI cJ cZ cD cR cT kp L f0) (sz : Nat) (h0 : Nat) (u1 : Int32) (u2 : Int32) (u3 : Int32) (u4 : Int32) (rh0 : RK kp L h0 0) (pu1 : (0 : Int) ≤ u1.toInt ∧ u1.toInt ≤ 19) (pu2 : (0 : Int) ≤ u2.toInt ∧ u2.toInt ≤ 11) (pu3 : (-1 : Int) ≤ u3.toInt ∧ u3.toInt ≤ 39) (pu4 : (-1 : Int) ≤ u4.toInt ∧ u4.toInt ≤ 39) (hcl : ∀ T : Nat, aQ (f0 (oR (f0 (oR (f0 h0) 4)) 1)) u1.toNatClampNeg = some T → u2.toInt < (oI (f0 T) 1).toInt) : Met l yX0_clauseHolds (Cond.code yX0_clauseHolds cX0_clauseHolds 7 (some .boolean) :: wTab) ({ frames := 4, cells := 0, slots := 0, locals := 117 }) (va_Pc [.ref h0, .int u1, .int u2, .int u3, .int u4] (PreW G (tys6 cI cJ cZ cD cR cT) (va_pl L f0) sz)) (QT (po_X0_clauseHolds kp L f0 h0 u1 u2 u3 u4) G cI cJ cZ cD cR cT (va_A (va_pl L f0) sz) kp L) 0 0 (va_A (va_pl L f0) sz) := by
  refine metT (by decide) (Nat.le_of_ble_eq_true rfl) hTH ?_
  intro p e s m below meth c A ls E hW hl
  obtain ⟨hx, hb, -, hml, hown, hts, -, -, -⟩ := id E
  have hF : FM kp L ms_X0_clauseHolds f0 f0 := FM.rf
  have hl : lv_has ls 7 [(0, .ref h0), (1, .int u1), (2, .int u2), (3, .int u3), (4, .int u4)] := hl
  refine lv_aload_n hx hb dX0_clauseHolds_0 rfl (lv_at hl 0 rfl) ?_
  refine fg_RX0_42 E hW rh0 dX0_clauseHolds_1 (fun a1 m2 r3 => ?_)
  refine fg_RX0_287 E hW r3 dX0_clauseHolds_4 (fun a4 m5 r6 => ?_)
  refine lv_iload_n hx hb dX0_clauseHolds_7 rfl (lv_at hl 1 rfl) ?_
  refine gl_221 E hW r6 ⟨by omega, by omega⟩ dX0_clauseHolds_8 (fun o7 m9 k8 => ?_)
  rcases o7 with _ | a10
  · have hl : lv_has ls 7 [(0, .ref h0), (1, .int u1), (2, .int u2), (3, .int u3), (4, .int u4)] := hl
    show W p l e ({ frames := 4, cells := 0, slots := 0, locals := 117 }) s m ([.ref h0, .int u1, .int u2, .int u3, .int u4] : List Value).toArray below meth c _ _ 0 0 (MQ below (QT (po_X0_clauseHolds kp L f0 h0 u1 u2 u3 u4) G cI cJ cZ cD cR cT A kp L) ([.ref h0, .int u1, .int u2, .int u3, .int u4] : List Value).toArray s 0 0 A) (F0 m 9 ls [.null])
    refine lv_astoreN (lv' := [(5, .null), (0, .ref h0), (1, .int u1), (2, .int u2), (3, .int u3), (4, .int u4)]) hx hb dX0_clauseHolds_9 hl (by decide) rfl (fun ls hl => ?_)
    refine lv_aloadN hx hb dX0_clauseHolds_11 (lv_at hl 0 rfl) ?_
    refine lv_ifnullN (tgt := 28) hx hb dX0_clauseHolds_13 (by decide) ?_
    refine lv_iconst (v := 0) hx hb dX0_clauseHolds_28 (by decide) ?_
    exact e_Z E hW rfl (by decide) ⟨⟨_, rfl, (by have hk : (0 : Int32).toInt = 0 := rfl; first | decide | omega)⟩, hF⟩ dX0_clauseHolds_29
  · have r11 : RK kp L a10 9 := k8 _ rfl
    have hl : lv_has ls 7 [(0, .ref h0), (1, .int u1), (2, .int u2), (3, .int u3), (4, .int u4)] := hl
    show W p l e ({ frames := 4, cells := 0, slots := 0, locals := 117 }) s m ([.ref h0, .int u1, .int u2, .int u3, .int u4] : List Value).toArray below meth c _ _ 0 0 (MQ below (QT (po_X0_clauseHolds kp L f0 h0 u1 u2 u3 u4) G cI cJ cZ cD cR cT A kp L) ([.ref h0, .int u1, .int u2, .int u3, .int u4] : List Value).toArray s 0 0 A) (F0 m 9 ls [.ref a10])
    refine lv_astore (lv' := [(5, .ref a10), (0, .ref h0), (1, .int u1), (2, .int u2), (3, .int u3), (4, .int u4)]) hx hb dX0_clauseHolds_9 hl (by decide) rfl (fun ls hl => ?_)
    refine lv_aload hx hb dX0_clauseHolds_11 (lv_at hl 0 rfl) ?_
    refine lv_ifnull hx hb dX0_clauseHolds_13 ?_
    refine lv_aload_n hx hb dX0_clauseHolds_16 rfl (lv_at hl 1 rfl) ?_
    refine fg_RX0_42 E hW rh0 dX0_clauseHolds_17 (fun a12 m13 r14 => ?_)
    obtain rfl : a1 = a12 := (m2).symm.trans m13
    refine lv_iload_n hx hb dX0_clauseHolds_20 rfl (lv_at hl 2 rfl) ?_
    refine lv_iload_n hx hb dX0_clauseHolds_21 rfl (lv_at hl 3 rfl) ?_
    refine t_callV (As := [.int u1, .int u2]) (rest := []) E hW (c_X2_isInForce l G cI cJ cZ cD cR cT kp L f0 hW.2.2.2 _ a1 u1 u2 r3 (by omega) (by omega)) r3 (by decide) rfl wk_X2_isInForce tw_716 rfl ⟨Nat.le_of_ble_eq_true rfl, Nat.le_of_ble_eq_true rfl⟩ ⟨rfl, rfl⟩ hl.1 rfl (Nat.le_of_ble_eq_true rfl) dX0_clauseHolds_22 ⟨Nat.le_of_ble_eq_true rfl, Nat.le_of_ble_eq_true rfl⟩ (fun v15 f16 H locs q17 hW => ?_)
    obtain ⟨⟨x19, rfl, p20⟩, g18⟩ := q17
    have hF := FM.tr hF g18 rfl
    refine q_if_ne (tgt := 30) hx hb dX0_clauseHolds_25 (by decide) rfl (fun c21 => ?_) (fun c21 => ?_)
    · refine lv_aload hx hb dX0_clauseHolds_30 (lv_at hl 0 rfl) ?_
      refine fg_RX0_296 E hW r11 dX0_clauseHolds_32 (fun a22 m23 r24 => ?_)
      refine lv_iload_n hx hb dX0_clauseHolds_35 rfl (lv_at hl 3 rfl) ?_
      refine gl_643 E hW r24 ⟨by omega, by omega⟩ dX0_clauseHolds_36 (fun y25 m26 => ?_)
      refine lv_istore (lv' := [(6, .int y25), (5, .ref a10), (0, .ref h0), (1, .int u1), (2, .int u2), (3, .int u3), (4, .int u4)]) hx hb dX0_clauseHolds_37 hl (by decide) rfl (fun ls hl => ?_)
      refine lv_iload hx hb dX0_clauseHolds_39 (lv_at hl 0 rfl) ?_
      refine lv_sipush (v := 256) hx hb dX0_clauseHolds_41 (by decide) ?_
      have J42 : ∀ (f36 : Nat → va_E) (y40 : Int32) (m37 : oR (f36 a1) 1 = a4) (m38 : oR (f36 a10) 3 = a22) (m39 : oR (f36 h0) 4 = a1) (b41 : (0 : Int) ≤ y40.toInt ∧ y40.toInt ≤ 1) (H : Heap) (locs : List Loc) (ls : Array Slot), WS G cI cJ cZ cD cR cT A kp L f36 s H locs → FM kp L ms_X0_clauseHolds f0 f36 → lv_has ls 7 [(6, .int y25), (5, .ref a10), (0, .ref h0), (1, .int u1), (2, .int u2), (3, .int u3), (4, .int u4)] → W p l e ({ frames := 4, cells := 0, slots := 0, locals := 117 }) s m ([.ref h0, .int u1, .int u2, .int u3, .int u4] : List Value).toArray below meth c H locs 0 0 (MQ below (QT (po_X0_clauseHolds kp L f0 h0 u1 u2 u3 u4) G cI cJ cZ cD cR cT A kp L) ([.ref h0, .int u1, .int u2, .int u3, .int u4] : List Value).toArray s 0 0 A) (F0 m 77 ls [.int y40]) := by
        intro f36 y40 m37 m38 m39 b41 H locs ls hW hF hl
        clear p20 c21
        exact e_Z E hW rfl (by omega) ⟨⟨_, rfl, (by first | omega | trivial)⟩, hF⟩ dX0_clauseHolds_77
      refine q_icmp_eq (Y := 256) (tgt := 76) hx hb dX0_clauseHolds_44 (by decide) rfl rfl (fun c43 => ?_) (fun c43 => ?_)
      · refine lv_iconst (v := 0) hx hb dX0_clauseHolds_76 (by decide) ?_
        exact J42 f16 0 ((fm_R g18 r3 rfl).trans m5) m23 ((fm_R g18 rh0 rfl).trans m13) (by decide) _ _ _ hW hF (lv_sub hl [0, 1, 2, 3, 4, 5, 6] rfl)
      · refine lv_iload hx hb dX0_clauseHolds_47 (lv_at hl 0 rfl) ?_
        refine lv_sipush (v := 258) hx hb dX0_clauseHolds_49 (by decide) ?_
        refine q_icmp_eq (Y := 258) (tgt := 76) hx hb dX0_clauseHolds_52 (by decide) rfl rfl (fun c44 => ?_) (fun c44 => ?_)
        · refine lv_iconst (v := 0) hx hb dX0_clauseHolds_76 (by decide) ?_
          exact J42 f16 0 ((fm_R g18 r3 rfl).trans m5) m23 ((fm_R g18 rh0 rfl).trans m13) (by decide) _ _ _ hW hF (lv_sub hl [0, 1, 2, 3, 4, 5, 6] rfl)
        · refine lv_aload_n hx hb dX0_clauseHolds_55 rfl (lv_at hl 2 rfl) ?_
          refine lv_aload hx hb dX0_clauseHolds_56 (lv_at hl 1 rfl) ?_
          refine lv_iload_n hx hb dX0_clauseHolds_58 rfl (lv_at hl 4 rfl) ?_
          refine lv_iload_n hx hb dX0_clauseHolds_59 rfl (lv_at hl 5 rfl) ?_
          refine lv_iload hx hb dX0_clauseHolds_60 (lv_at hl 6 rfl) ?_
          refine t_callV (As := [.ref a10, .int u2, .int u3, .int u4]) (rest := []) E hW (c_X0_ask l G cI cJ cZ cD cR cT kp L f16 hW.2.2.2 _ h0 a10 u2 u3 u4 rh0 r11 (by omega) (by omega) (by omega) (by rw [fm_I hF r11 rfl]; exact hcl _ (by rw [m2, m5]; exact m9))) rh0 (by decide) rfl wk_X0_ask tw_717 rfl ⟨Nat.le_of_ble_eq_true rfl, Nat.le_of_ble_eq_true rfl⟩ ⟨rfl, rfl⟩ hl.1 rfl (Nat.le_of_ble_eq_true rfl) dX0_clauseHolds_62 ⟨Nat.le_of_ble_eq_true rfl, Nat.le_of_ble_eq_true rfl⟩ (fun v45 f46 H locs q47 hW => ?_)
          obtain ⟨⟨x49, rfl, p50⟩, g48⟩ := q47
          clear p50
          have hF := FM.tr hF g48 rfl
          refine lv_ldc2 (v := (-4000000000000000000)) hx hb hown (hts _ tw_721) dX0_clauseHolds_65 ?_
          refine q_lcmp_eq (Y := -4000000000000000000) (tgt := 76) hx hb dX0_clauseHolds_68 dX0_clauseHolds_69 (by decide) rfl rfl (fun c51 => ?_) (fun c51 => ?_)
          · refine lv_iconst (v := 0) hx hb dX0_clauseHolds_76 (by decide) ?_
            exact J42 f46 0 ((fm_R g48 r3 rfl).trans ((fm_R g18 r3 rfl).trans m5)) ((fm_R g48 r11 rfl).trans m23) ((fm_R g48 rh0 rfl).trans ((fm_R g18 rh0 rfl).trans m13)) (by decide) _ _ _ hW hF (lv_sub hl [0, 1, 2, 3, 4, 5, 6] rfl)
          · refine lv_iconst (v := 1) hx hb dX0_clauseHolds_72 (by decide) ?_
            refine lv_goto (tgt := 77) hx hb dX0_clauseHolds_73 (by decide) ?_
            exact J42 f46 1 ((fm_R g48 r3 rfl).trans ((fm_R g18 r3 rfl).trans m5)) ((fm_R g48 r11 rfl).trans m23) ((fm_R g48 rh0 rfl).trans ((fm_R g18 rh0 rfl).trans m13)) (by decide) _ _ _ hW hF (lv_sub hl [0, 1, 2, 3, 4, 5, 6] rfl)
    · refine lv_iconst (v := 0) hx hb dX0_clauseHolds_28 (by decide) ?_
      exact e_Z E hW rfl (by decide) ⟨⟨_, rfl, (by have hk : (0 : Int32).toInt = 0 := rfl; first | decide | omega)⟩, hF⟩ dX0_clauseHolds_29
def ms_X0_pay : List (Nat × Nat) := [(342, 0), (345, 0)]
def po_X0_pay (kp : Nat → Nat) (L : List Nat) (f0 : Nat → va_E) (h0 : Nat) (u1 : Int32) (u2 : Int32) : Option Value → (Nat → va_E) → Prop := fun v f => (∃ r : Int32, v = some (.int r) ∧ (True)) ∧ FM kp L ms_X0_pay f0 f
set_option maxHeartbeats 4000000 in
set_option maxRecDepth 100000 in
theorem c_X0_pay (l : Launch) (G : va_G) (cI cJ cZ cD cR cT : ClassId) (kp : Nat → Nat) (L : List Nat) (f0 : Nat → va_E) (hTH : TH cI cJ cZ cD cR cT kp L f0) (sz : Nat) (h0 : Nat) (u1 : Int32) (u2 : Int32) (rh0 : RK kp L h0 0) (pu1 : (0 : Int) ≤ u1.toInt ∧ u1.toInt ≤ 39) : Met l yX0_pay (Cond.code yX0_pay cX0_pay 5 (some .int) :: wTab) ({ frames := 1, cells := 0, slots := 0, locals := 60 }) (va_Pc [.ref h0, .int u1, .int u2] (PreW G (tys6 cI cJ cZ cD cR cT) (va_pl L f0) sz)) (QT (po_X0_pay kp L f0 h0 u1 u2) G cI cJ cZ cD cR cT (va_A (va_pl L f0) sz) kp L) 0 0 (va_A (va_pl L f0) sz) := by
  refine metT (by decide) (Nat.le_of_ble_eq_true rfl) hTH ?_
  intro p e s m below meth c A ls E hW hl
  obtain ⟨hx, hb, -, hml, hown, hts, -, -, -⟩ := id E
  have hF : FM kp L ms_X0_pay f0 f0 := FM.rf
  have hl : lv_has ls 5 [(0, .ref h0), (1, .int u1), (2, .int u2)] := hl
  refine lv_iload_n hx hb dX0_pay_0 rfl (lv_at hl 2 rfl) ?_
  refine lv_aload_n hx hb dX0_pay_1 rfl (lv_at hl 0 rfl) ?_
  refine fg_RX0_12 E hW rh0 dX0_pay_2 (fun a1 m2 r3 => ?_)
  refine fg_RX0_213 E hW r3 dX0_pay_5 (fun a4 m5 r6 => ?_)
  refine lv_iload_n hx hb dX0_pay_8 rfl (lv_at hl 1 rfl) ?_
  refine gl_342 E hW r6 ⟨by omega, by omega⟩ dX0_pay_9 (fun y7 m8 => ?_)
  refine u_isub hx hb dX0_pay_10 (fun x10 => ?_)
  refine lv_istore_n (lv' := [(3, .int x10), (0, .ref h0), (1, .int u1), (2, .int u2)]) hx hb dX0_pay_11 rfl hl (by decide) rfl (fun ls hl => ?_)
  refine lv_iload_n hx hb dX0_pay_12 rfl (lv_at hl 0 rfl) ?_
  have J70 : ∀ (f67 : Nat → va_E) (m68 : oR (f67 a1) 2 = a4) (m69 : oR (f67 h0) 0 = a1) (H : Heap) (locs : List Loc) (ls : Array Slot), WS G cI cJ cZ cD cR cT A kp L f67 s H locs → FM kp L ms_X0_pay f0 f67 → lv_has ls 5 [(3, .int x10), (0, .ref h0), (1, .int u1), (2, .int u2)] → W p l e ({ frames := 1, cells := 0, slots := 0, locals := 60 }) s m ([.ref h0, .int u1, .int u2] : List Value).toArray below meth c H locs 0 0 (MQ below (QT (po_X0_pay kp L f0 h0 u1 u2) G cI cJ cZ cD cR cT A kp L) ([.ref h0, .int u1, .int u2] : List Value).toArray s 0 0 A) (F0 m 83 ls []) := by
    intro f67 m68 m69 H locs ls hW hF hl
    refine lv_iload_n hx hb dX0_pay_83 rfl (lv_at hl 3 rfl) ?_
    refine lv_aload_n hx hb dX0_pay_84 rfl (lv_at hl 1 rfl) ?_
    refine fg_RX0_12 E hW rh0 dX0_pay_85 (fun a71 m72 r73 => ?_)
    obtain rfl : a1 = a71 := (m69).symm.trans m72
    refine fg_RX0_213 E hW r3 dX0_pay_88 (fun a74 m75 r76 => ?_)
    obtain rfl : a4 = a74 := (m68).symm.trans m75
    refine lv_iload_n hx hb dX0_pay_91 rfl (lv_at hl 2 rfl) ?_
    refine gl_342 E hW r6 ⟨by omega, by omega⟩ dX0_pay_92 (fun y77 m78 => ?_)
    refine t_min (own := RX0) E tw_1133 ⟨tw_637, tw_115, tw_638⟩ hl.1 ⟨Nat.le_of_ble_eq_true rfl, Nat.le_of_ble_eq_true rfl⟩ ⟨Nat.le_of_ble_eq_true rfl, Nat.le_of_ble_eq_true rfl⟩ rfl rfl dX0_pay_93 (fun x80 h81 => ?_)
    refine lv_istore (lv' := [(4, .int x80), (3, .int x10), (0, .ref h0), (1, .int u1), (2, .int u2)]) hx hb dX0_pay_96 hl (by decide) rfl (fun ls hl => ?_)
    refine lv_aload_n hx hb dX0_pay_98 rfl (lv_at hl 2 rfl) ?_
    refine fg_RX0_12 E hW rh0 dX0_pay_99 (fun a82 m83 r84 => ?_)
    obtain rfl : a1 = a82 := (m72).symm.trans m83
    refine fg_RX0_213 E hW r3 dX0_pay_102 (fun a85 m86 r87 => ?_)
    obtain rfl : a4 = a85 := (m75).symm.trans m86
    refine lv_iload_n hx hb dX0_pay_105 rfl (lv_at hl 3 rfl) ?_
    refine lv_dup2_11 hx hb dX0_pay_106 rfl rfl ?_
    refine gl_342 E hW r6 ⟨by omega, by omega⟩ dX0_pay_107 (fun y88 m89 => ?_)
    obtain rfl : y77 = y88 := (m78).symm.trans m89
    refine lv_iload hx hb dX0_pay_108 (lv_at hl 0 rfl) ?_
    refine u_isub hx hb dX0_pay_110 (fun x91 => ?_)
    refine gs_342 E hW r6 ⟨by omega, by omega⟩ dX0_pay_111 (fun f92 H locs e93 n94 g95 hW => ?_)
    have hF := FM.tr hF g95 rfl
    refine lv_iload hx hb dX0_pay_112 (lv_at hl 0 rfl) ?_
    exact e_I E hW rfl ⟨⟨_, rfl, trivial⟩, hF⟩ dX0_pay_114
  refine q_if_le (tgt := 83) hx hb dX0_pay_13 (by decide) rfl (fun c96 => ?_) (fun c96 => ?_)
  · exact J70 f0 m5 m2 _ _ _ hW hF (lv_sub hl [0, 1, 2, 3] rfl)
  · refine lv_aload_n hx hb dX0_pay_16 rfl (lv_at hl 1 rfl) ?_
    refine fg_RX0_121 E hW rh0 dX0_pay_17 (fun y97 m98 => ?_)
    refine q_if_le (tgt := 83) hx hb dX0_pay_20 (by decide) rfl (fun c100 => ?_) (fun c100 => ?_)
    · exact J70 f0 m5 m2 _ _ _ hW hF (lv_sub hl [0, 1, 2, 3] rfl)
    · refine lv_iload_n hx hb dX0_pay_23 rfl (lv_at hl 0 rfl) ?_
      refine lv_aload_n hx hb dX0_pay_24 rfl (lv_at hl 1 rfl) ?_
      refine fg_RX0_121 E hW rh0 dX0_pay_25 (fun y101 m102 => ?_)
      obtain rfl : y97 = y101 := (m98).symm.trans m102
      refine u_iadd hx hb dX0_pay_28 (fun x104 => ?_)
      refine lv_iconst (v := 1) hx hb dX0_pay_29 (by decide) ?_
      refine u_isub hx hb dX0_pay_30 (fun x105 => ?_)
      refine lv_aload_n hx hb dX0_pay_31 rfl (lv_at hl 1 rfl) ?_
      refine fg_RX0_121 E hW rh0 dX0_pay_32 (fun y106 m107 => ?_)
      obtain rfl : y97 = y106 := (m102).symm.trans m107
      refine u_idiv hx hb dX0_pay_35 (by omega) (fun x109 => ?_)
      refine lv_aload_n hx hb dX0_pay_36 rfl (lv_at hl 1 rfl) ?_
      refine fg_RX0_12 E hW rh0 dX0_pay_37 (fun a110 m111 r112 => ?_)
      obtain rfl : a1 = a110 := (m2).symm.trans m111
      refine fg_RX0_179 E hW r3 dX0_pay_40 (fun a113 m114 r115 => ?_)
      refine lv_iload_n hx hb dX0_pay_43 rfl (lv_at hl 2 rfl) ?_
      refine gl_345 E hW r115 ⟨by omega, by omega⟩ dX0_pay_44 (fun y116 m117 => ?_)
      refine t_min (own := RX0) E tw_1133 ⟨tw_637, tw_115, tw_638⟩ hl.1 ⟨Nat.le_of_ble_eq_true rfl, Nat.le_of_ble_eq_true rfl⟩ ⟨Nat.le_of_ble_eq_true rfl, Nat.le_of_ble_eq_true rfl⟩ rfl rfl dX0_pay_45 (fun x119 h120 => ?_)
      refine lv_istore (lv' := [(4, .int x119), (3, .int x10), (0, .ref h0), (1, .int u1), (2, .int u2)]) hx hb dX0_pay_48 hl (by decide) rfl (fun ls hl => ?_)
      refine lv_aload_n hx hb dX0_pay_50 rfl (lv_at hl 2 rfl) ?_
      refine fg_RX0_12 E hW rh0 dX0_pay_51 (fun a121 m122 r123 => ?_)
      obtain rfl : a1 = a121 := (m111).symm.trans m122
      refine fg_RX0_179 E hW r3 dX0_pay_54 (fun a124 m125 r126 => ?_)
      obtain rfl : a113 = a124 := (m114).symm.trans m125
      refine lv_iload_n hx hb dX0_pay_57 rfl (lv_at hl 3 rfl) ?_
      refine lv_dup2_11 hx hb dX0_pay_58 rfl rfl ?_
      refine gl_345 E hW r115 ⟨by omega, by omega⟩ dX0_pay_59 (fun y127 m128 => ?_)
      obtain rfl : y116 = y127 := (m117).symm.trans m128
      refine lv_iload hx hb dX0_pay_60 (lv_at hl 0 rfl) ?_
      refine u_isub hx hb dX0_pay_62 (fun x130 => ?_)
      refine gs_345 E hW r115 ⟨by omega, by omega⟩ dX0_pay_63 (fun f131 H locs e132 n133 g134 hW => ?_)
      have hF := FM.tr hF g134 rfl
      refine lv_aload_n hx hb dX0_pay_64 rfl (lv_at hl 2 rfl) ?_
      refine fg_RX0_12 E hW rh0 dX0_pay_65 (fun a135 m136 r137 => ?_)
      obtain rfl : a1 = a135 := (((fm_R g134 rh0 rfl).trans m122)).symm.trans m136
      refine fg_RX0_213 E hW r3 dX0_pay_68 (fun a138 m139 r140 => ?_)
      obtain rfl : a4 = a138 := (((fm_R g134 r3 rfl).trans m5)).symm.trans m139
      refine lv_iload_n hx hb dX0_pay_71 rfl (lv_at hl 3 rfl) ?_
      refine lv_dup2_11 hx hb dX0_pay_72 rfl rfl ?_
      refine gl_342 E hW r6 ⟨by omega, by omega⟩ dX0_pay_73 (fun y141 m142 => ?_)
      obtain rfl : y7 = y141 := (((congrArg (fun z => aI z (u1 : Int32).toNatClampNeg) (fm_A g134 r6 (by decide) rfl)).trans m8)).symm.trans m142
      refine lv_iload hx hb dX0_pay_74 (lv_at hl 0 rfl) ?_
      refine lv_aload_n hx hb dX0_pay_76 rfl (lv_at hl 2 rfl) ?_
      refine fg_RX0_121 E hW rh0 dX0_pay_77 (fun y144 m145 => ?_)
      obtain rfl : y97 = y144 := (((fm_I g134 rh0 rfl).trans m107)).symm.trans m145
      refine u_imul hx hb dX0_pay_80 (fun x147 => ?_)
      refine u_iadd hx hb dX0_pay_81 (fun x148 => ?_)
      refine gs_342 E hW r6 ⟨by omega, by omega⟩ dX0_pay_82 (fun f149 H locs e150 n151 g152 hW => ?_)
      have hF := FM.tr hF g152 rfl
      exact J70 f149 ((fm_R g152 r3 rfl).trans m139) ((fm_R g152 rh0 rfl).trans m136) _ _ _ hW hF (lv_sub hl [1, 2, 3, 4] rfl)
def ms_X0_fairOf : List (Nat × Nat) := [(115, 0)]
def po_X0_fairOf (kp : Nat → Nat) (L : List Nat) (f0 : Nat → va_E) (h0 : Nat) (u1 : Int32) : Option Value → (Nat → va_E) → Prop := fun v f => (∃ r : Int32, v = some (.int r) ∧ ((0 : Int) ≤ r.toInt)) ∧ FM kp L ms_X0_fairOf f0 f
set_option maxHeartbeats 4000000 in
set_option maxRecDepth 100000 in
theorem c_X0_fairOf (l : Launch) (G : va_G) (cI cJ cZ cD cR cT : ClassId) (kp : Nat → Nat) (L : List Nat) (f0 : Nat → va_E) (hTH : TH cI cJ cZ cD cR cT kp L f0) (sz : Nat) (h0 : Nat) (u1 : Int32) (rh0 : RK kp L h0 0) (pu1 : (0 : Int) ≤ u1.toInt ∧ u1.toInt ≤ 39) : Met l yX0_fairOf (Cond.code yX0_fairOf cX0_fairOf 8 (some .int) :: wTab) ({ frames := 4, cells := 0, slots := 0, locals := 117 }) (va_Pc [.ref h0, .int u1] (PreW G (tys6 cI cJ cZ cD cR cT) (va_pl L f0) sz)) (QT (po_X0_fairOf kp L f0 h0 u1) G cI cJ cZ cD cR cT (va_A (va_pl L f0) sz) kp L) 0 0 (va_A (va_pl L f0) sz) := by
  refine metT (by decide) (Nat.le_of_ble_eq_true rfl) hTH ?_
  intro p e s m below meth c A ls E hW hl
  obtain ⟨hx, hb, -, hml, hown, hts, -, -, -⟩ := id E
  have hF : FM kp L ms_X0_fairOf f0 f0 := FM.rf
  have hl : lv_has ls 8 [(0, .ref h0), (1, .int u1)] := hl
  refine lv_aload_n hx hb dX0_fairOf_0 rfl (lv_at hl 0 rfl) ?_
  refine fg_RX0_21 E hW rh0 dX0_fairOf_1 (fun a1 m2 r3 => ?_)
  refine lv_iload_n hx hb dX0_fairOf_4 rfl (lv_at hl 1 rfl) ?_
  refine t_callV (As := [.int u1]) (rest := []) E hW (c_X1_rentOf l G cI cJ cZ cD cR cT kp L f0 hW.2.2.2 _ a1 u1 r3 (by omega)) r3 (by decide) rfl wk_X1_rentOf tw_709 rfl ⟨Nat.le_of_ble_eq_true rfl, Nat.le_of_ble_eq_true rfl⟩ ⟨rfl, rfl⟩ hl.1 rfl (Nat.le_of_ble_eq_true rfl) dX0_fairOf_5 ⟨Nat.le_of_ble_eq_true rfl, Nat.le_of_ble_eq_true rfl⟩ (fun v4 f5 H locs q6 hW => ?_)
  obtain ⟨⟨x8, rfl, p9⟩, g7⟩ := q6
  have hF := FM.tr hF g7 rfl
  refine lv_istore_n (lv' := [(2, .int x8), (0, .ref h0), (1, .int u1)]) hx hb dX0_fairOf_8 rfl hl (by decide) rfl (fun ls hl => ?_)
  refine lv_aload_n hx hb dX0_fairOf_9 rfl (lv_at hl 1 rfl) ?_
  refine fg_RX0_42 E hW rh0 dX0_fairOf_10 (fun a10 m11 r12 => ?_)
  refine fg_RX0_286 E hW r12 dX0_fairOf_13 (fun y13 m14 b15 => ?_)
  refine lv_iconst (v := 1) hx hb dX0_fairOf_16 (by decide) ?_
  refine q_isub (Y := 1) hx hb dX0_fairOf_17 rfl rfl (by omega) (fun x16 h17 => ?_)
  refine lv_istore_n (lv' := [(3, .int x16), (2, .int x8), (0, .ref h0), (1, .int u1)]) hx hb dX0_fairOf_18 rfl hl (by decide) rfl (fun ls hl => ?_)
  have L185 : ∀ (n : Nat), ∀ (f179 : Nat → va_E) (y183 : Int32) (m180 : oI (f179 a10) 0 = y13) (m181 : oR (f179 h0) 1 = a1) (m182 : oR (f179 h0) 4 = a10) (b184 : (-1 : Int) ≤ y183.toInt ∧ y183.toInt ≤ 19) (hm : y183.toInt - (-2 : Int) ≤ n) (H : Heap) (locs : List Loc) (ls : Array Slot), WS G cI cJ cZ cD cR cT A kp L f179 s H locs → FM kp L ms_X0_fairOf f0 f179 → lv_has ls 8 [(3, .int y183), (2, .int x8), (0, .ref h0), (1, .int u1)] → W p l e ({ frames := 4, cells := 0, slots := 0, locals := 117 }) s m ([.ref h0, .int u1] : List Value).toArray below meth c H locs 0 0 (MQ below (QT (po_X0_fairOf kp L f0 h0 u1) G cI cJ cZ cD cR cT A kp L) ([.ref h0, .int u1] : List Value).toArray s 0 0 A) (F0 m 19 ls []) := by
    intro n
    induction n with
    | zero =>
      intro f179 y183 m180 m181 m182 b184 hm H locs ls hW hF hl
      have hz := i32_b y183
      exfalso; omega
    | succ n ih =>
      intro f179 y183 m180 m181 m182 b184 hm H locs ls hW hF hl
      have ih19 := ih
      refine lv_iload_n hx hb dX0_fairOf_19 rfl (lv_at hl 0 rfl) ?_
      refine q_if_lt (tgt := 141) hx hb dX0_fairOf_20 (by decide) rfl (fun c186 => ?_) (fun c186 => ?_)
      · refine lv_iload_n hx hb dX0_fairOf_141 rfl (lv_at hl 1 rfl) ?_
        exact e_I E hW rfl ⟨⟨_, rfl, (by first | omega | trivial)⟩, hF⟩ dX0_fairOf_142
      · refine lv_aload_n hx hb dX0_fairOf_23 rfl (lv_at hl 2 rfl) ?_
        refine fg_RX0_42 E hW rh0 dX0_fairOf_24 (fun a187 m188 r189 => ?_)
        obtain rfl : a10 = a187 := (m182).symm.trans m188
        refine fg_RX0_287 E hW r12 dX0_fairOf_27 (fun a190 m191 r192 => ?_)
        refine lv_iload_n hx hb dX0_fairOf_30 rfl (lv_at hl 0 rfl) ?_
        refine gl_221 E hW r192 ⟨by omega, by omega⟩ dX0_fairOf_31 (fun o193 m195 k194 => ?_)
        rcases o193 with _ | a196
        · have hl : lv_has ls 8 [(3, .int y183), (2, .int x8), (0, .ref h0), (1, .int u1)] := hl
          show W p l e ({ frames := 4, cells := 0, slots := 0, locals := 117 }) s m ([.ref h0, .int u1] : List Value).toArray below meth c _ _ 0 0 (MQ below (QT (po_X0_fairOf kp L f0 h0 u1) G cI cJ cZ cD cR cT A kp L) ([.ref h0, .int u1] : List Value).toArray s 0 0 A) (F0 m 32 ls [.null])
          refine lv_astoreN (lv' := [(4, .null), (3, .int y183), (2, .int x8), (0, .ref h0), (1, .int u1)]) hx hb dX0_fairOf_32 hl (by decide) rfl (fun ls hl => ?_)
          refine lv_aloadN hx hb dX0_fairOf_34 (lv_at hl 0 rfl) ?_
          refine lv_ifnonnullN hx hb dX0_fairOf_36 ?_
          refine lv_iconst (v := (-1)) hx hb dX0_fairOf_39 (by decide) ?_
          refine lv_goto (tgt := 50) hx hb dX0_fairOf_40 (by decide) ?_
          refine lv_istore (lv' := [(5, .int (-1)), (4, .null), (3, .int y183), (2, .int x8), (0, .ref h0), (1, .int u1)]) hx hb dX0_fairOf_50 hl (by decide) rfl (fun ls hl => ?_)
          have L213 : ∀ (n : Nat), ∀ (f206 : Nat → va_E) (y211 : Int32) (m207 : oI (f206 a10) 0 = y13) (m208 : oR (f206 a10) 1 = a190) (m209 : oR (f206 h0) 1 = a1) (m210 : oR (f206 h0) 4 = a10) (b212 : (-1 : Int) ≤ y211.toInt ∧ y211.toInt ≤ -1) (hm : (1 : Int) ≤ n) (H : Heap) (locs : List Loc) (ls : Array Slot), WS G cI cJ cZ cD cR cT A kp L f206 s H locs → FM kp L ms_X0_fairOf f0 f206 → lv_has ls 8 [(5, .int y211), (4, .null), (3, .int y183), (2, .int x8), (0, .ref h0), (1, .int u1)] → W p l e ({ frames := 4, cells := 0, slots := 0, locals := 117 }) s m ([.ref h0, .int u1] : List Value).toArray below meth c H locs 0 0 (MQ below (QT (po_X0_fairOf kp L f0 h0 u1) G cI cJ cZ cD cR cT A kp L) ([.ref h0, .int u1] : List Value).toArray s 0 0 A) (F0 m 52 ls []) := by
            intro n
            induction n with
            | zero =>
              intro f206 y211 m207 m208 m209 m210 b212 hm H locs ls hW hF hl
              exfalso; omega
            | succ n ih =>
              intro f206 y211 m207 m208 m209 m210 b212 hm H locs ls hW hF hl
              have ih52 := ih
              refine lv_iload hx hb dX0_fairOf_52 (lv_at hl 0 rfl) ?_
              refine q_if_lt (tgt := 135) hx hb dX0_fairOf_54 (by decide) rfl (fun c214 => ?_) (fun c214 => ?_)
              · refine q_iinc hx hb dX0_fairOf_135 hl (k := 2) rfl rfl rfl (by omega) (by decide) (fun i215 ls h216 hl => ?_)
                have hl : lv_has ls 8 [(3, .int i215), (5, .int y211), (4, .null), (2, .int x8), (0, .ref h0), (1, .int u1)] := hl
                refine lv_goto (tgt := 19) hx hb dX0_fairOf_138 (by decide) ?_
                exact ih19 f206 i215 m207 m209 m210 (by omega) (by omega) _ _ _ hW hF (lv_sub hl [0, 3, 4, 5] rfl)
              · exfalso; omega
          have hk217 : ((-1) : Int32).toInt = -1 := rfl
          exact L213 1 f179 (-1) m180 m191 m181 m188 (by decide) (by omega) _ _ _ hW hF (lv_sub hl [0, 1, 2, 3, 4, 5] rfl)
        · have r197 : RK kp L a196 9 := k194 _ rfl
          have hl : lv_has ls 8 [(3, .int y183), (2, .int x8), (0, .ref h0), (1, .int u1)] := hl
          show W p l e ({ frames := 4, cells := 0, slots := 0, locals := 117 }) s m ([.ref h0, .int u1] : List Value).toArray below meth c _ _ 0 0 (MQ below (QT (po_X0_fairOf kp L f0 h0 u1) G cI cJ cZ cD cR cT A kp L) ([.ref h0, .int u1] : List Value).toArray s 0 0 A) (F0 m 32 ls [.ref a196])
          refine lv_astore (lv' := [(4, .ref a196), (3, .int y183), (2, .int x8), (0, .ref h0), (1, .int u1)]) hx hb dX0_fairOf_32 hl (by decide) rfl (fun ls hl => ?_)
          refine lv_aload hx hb dX0_fairOf_34 (lv_at hl 0 rfl) ?_
          refine lv_ifnonnull (tgt := 43) hx hb dX0_fairOf_36 (by decide) ?_
          refine lv_aload hx hb dX0_fairOf_43 (lv_at hl 0 rfl) ?_
          refine fg_RX0_291 E hW r197 dX0_fairOf_45 (fun y218 m219 b220 => ?_)
          refine lv_iconst (v := 1) hx hb dX0_fairOf_48 (by decide) ?_
          refine q_isub (Y := 1) hx hb dX0_fairOf_49 rfl rfl (by omega) (fun x221 h222 => ?_)
          refine lv_istore (lv' := [(5, .int x221), (4, .ref a196), (3, .int y183), (2, .int x8), (0, .ref h0), (1, .int u1)]) hx hb dX0_fairOf_50 hl (by decide) rfl (fun ls hl => ?_)
          have L290 : ∀ (n : Nat), ∀ (f281 : Nat → va_E) (y287 : Int32) (m282 : oI (f281 a10) 0 = y13) (m283 : oR (f281 a10) 1 = a190) (m284 : oI (f281 a196) 1 = y218) (m285 : oR (f281 h0) 1 = a1) (m286 : oR (f281 h0) 4 = a10) (b288 : (-1 : Int) ≤ y287.toInt ∧ y287.toInt ≤ 11) (v289 : y287.toInt < y218.toInt) (hm : y287.toInt - (-2 : Int) ≤ n) (H : Heap) (locs : List Loc) (ls : Array Slot), WS G cI cJ cZ cD cR cT A kp L f281 s H locs → FM kp L ms_X0_fairOf f0 f281 → lv_has ls 8 [(5, .int y287), (4, .ref a196), (3, .int y183), (2, .int x8), (0, .ref h0), (1, .int u1)] → W p l e ({ frames := 4, cells := 0, slots := 0, locals := 117 }) s m ([.ref h0, .int u1] : List Value).toArray below meth c H locs 0 0 (MQ below (QT (po_X0_fairOf kp L f0 h0 u1) G cI cJ cZ cD cR cT A kp L) ([.ref h0, .int u1] : List Value).toArray s 0 0 A) (F0 m 52 ls []) := by
            intro n
            induction n with
            | zero =>
              intro f281 y287 m282 m283 m284 m285 m286 b288 v289 hm H locs ls hW hF hl
              have hz := i32_b y287
              exfalso; omega
            | succ n ih =>
              intro f281 y287 m282 m283 m284 m285 m286 b288 v289 hm H locs ls hW hF hl
              have ih52 := ih
              refine lv_iload hx hb dX0_fairOf_52 (lv_at hl 0 rfl) ?_
              refine q_if_lt (tgt := 135) hx hb dX0_fairOf_54 (by decide) rfl (fun c291 => ?_) (fun c291 => ?_)
              · refine q_iinc hx hb dX0_fairOf_135 hl (k := 2) rfl rfl rfl (by omega) (by decide) (fun i292 ls h293 hl => ?_)
                have hl : lv_has ls 8 [(3, .int i292), (5, .int y287), (4, .ref a196), (2, .int x8), (0, .ref h0), (1, .int u1)] := hl
                refine lv_goto (tgt := 19) hx hb dX0_fairOf_138 (by decide) ?_
                exact ih19 f281 i292 m282 m285 m286 (by omega) (by omega) _ _ _ hW hF (lv_sub hl [0, 3, 4, 5] rfl)
              · refine lv_aload hx hb dX0_fairOf_57 (lv_at hl 1 rfl) ?_
                refine fg_RX0_296 E hW r197 dX0_fairOf_59 (fun a294 m295 r296 => ?_)
                refine lv_iload hx hb dX0_fairOf_62 (lv_at hl 0 rfl) ?_
                refine gl_643 E hW r296 ⟨by omega, by omega⟩ dX0_fairOf_64 (fun y297 m298 => ?_)
                refine lv_sipush (v := 260) hx hb dX0_fairOf_65 (by decide) ?_
                refine q_icmp_ne (Y := 260) (tgt := 129) hx hb dX0_fairOf_68 (by decide) rfl rfl (fun c300 => ?_) (fun c300 => ?_)
                · refine q_iinc hx hb dX0_fairOf_129 hl (k := 0) rfl rfl rfl (by omega) (by decide) (fun i301 ls h302 hl => ?_)
                  have hl : lv_has ls 8 [(5, .int i301), (4, .ref a196), (3, .int y183), (2, .int x8), (0, .ref h0), (1, .int u1)] := hl
                  refine lv_goto (tgt := 52) hx hb dX0_fairOf_132 (by decide) ?_
                  exact ih52 f281 i301 m282 m283 m284 m285 m286 (by omega) (by omega) (by omega) _ _ _ hW hF (lv_sub hl [0, 1, 2, 3, 4, 5] rfl)
                · refine lv_aload_n hx hb dX0_fairOf_71 rfl (lv_at hl 4 rfl) ?_
                  refine fg_RX0_42 E hW rh0 dX0_fairOf_72 (fun a303 m304 r305 => ?_)
                  obtain rfl : a10 = a303 := (m286).symm.trans m304
                  refine lv_iload_n hx hb dX0_fairOf_75 rfl (lv_at hl 2 rfl) ?_
                  refine lv_iload hx hb dX0_fairOf_76 (lv_at hl 0 rfl) ?_
                  refine t_callV (As := [.int y183, .int y287]) (rest := []) E hW (c_X2_isInForce l G cI cJ cZ cD cR cT kp L f281 hW.2.2.2 _ a10 y183 y287 r12 (by omega) (by omega)) r12 (by decide) rfl wk_X2_isInForce tw_716 rfl ⟨Nat.le_of_ble_eq_true rfl, Nat.le_of_ble_eq_true rfl⟩ ⟨rfl, rfl⟩ hl.1 rfl (Nat.le_of_ble_eq_true rfl) dX0_fairOf_78 ⟨Nat.le_of_ble_eq_true rfl, Nat.le_of_ble_eq_true rfl⟩ (fun v306 f307 H locs q308 hW => ?_)
                  obtain ⟨⟨x310, rfl, p311⟩, g309⟩ := q308
                  have hF := FM.tr hF g309 rfl
                  refine q_if_ne (tgt := 87) hx hb dX0_fairOf_81 (by decide) rfl (fun c312 => ?_) (fun c312 => ?_)
                  · refine lv_aload_n hx hb dX0_fairOf_87 rfl (lv_at hl 4 rfl) ?_
                    refine lv_aload hx hb dX0_fairOf_88 (lv_at hl 1 rfl) ?_
                    refine lv_iload hx hb dX0_fairOf_90 (lv_at hl 0 rfl) ?_
                    refine lv_aload_n hx hb dX0_fairOf_92 rfl (lv_at hl 4 rfl) ?_
                    refine fg_RX0_21 E hW rh0 dX0_fairOf_93 (fun a313 m314 r315 => ?_)
                    obtain rfl : a1 = a313 := (((fm_R g309 rh0 rfl).trans m285)).symm.trans m314
                    refine fg_RX0_124 E hW r3 dX0_fairOf_96 (fun a316 m317 r318 => ?_)
                    refine lv_iload_n hx hb dX0_fairOf_99 rfl (lv_at hl 5 rfl) ?_
                    refine gl_164 E hW r318 ⟨by omega, by omega⟩ dX0_fairOf_100 (fun y319 m320 b321 => ?_)
                    refine lv_iload_n hx hb dX0_fairOf_101 rfl (lv_at hl 5 rfl) ?_
                    refine t_callV (As := [.ref a196, .int y287, .int y319, .int u1]) (rest := []) E hW (c_X0_ask l G cI cJ cZ cD cR cT kp L f307 hW.2.2.2 _ h0 a196 y287 y319 u1 rh0 r197 (by omega) (by omega) (by omega) (by rw [((fm_I g309 r197 rfl).trans m284)]; omega)) rh0 (by decide) rfl wk_X0_ask tw_717 rfl ⟨Nat.le_of_ble_eq_true rfl, Nat.le_of_ble_eq_true rfl⟩ ⟨rfl, rfl⟩ hl.1 rfl (Nat.le_of_ble_eq_true rfl) dX0_fairOf_102 ⟨Nat.le_of_ble_eq_true rfl, Nat.le_of_ble_eq_true rfl⟩ (fun v322 f323 H locs q324 hW => ?_)
                    obtain ⟨⟨x326, rfl, p327⟩, g325⟩ := q324
                    clear p327
                    have hF := FM.tr hF g325 rfl
                    refine lv_lstore (lv' := [(6, .long x326), (5, .int y287), (4, .ref a196), (3, .int y183), (2, .int x8), (0, .ref h0), (1, .int u1)]) hx hb dX0_fairOf_105 hl (by decide) rfl (fun ls hl => ?_)
                    refine lv_lload hx hb dX0_fairOf_107 (lv_at hl 0 rfl) ?_
                    refine lv_ldc2 (v := (-4000000000000000000)) hx hb hown (hts _ tw_721) dX0_fairOf_109 ?_
                    refine q_lcmp_eq (Y := -4000000000000000000) (tgt := 129) hx hb dX0_fairOf_112 dX0_fairOf_113 (by decide) rfl rfl (fun c328 => ?_) (fun c328 => ?_)
                    · refine q_iinc hx hb dX0_fairOf_129 hl (k := 1) rfl rfl rfl (by omega) (by decide) (fun i329 ls h330 hl => ?_)
                      have hl : lv_has ls 8 [(5, .int i329), (6, .long x326), (4, .ref a196), (3, .int y183), (2, .int x8), (0, .ref h0), (1, .int u1)] := hl
                      refine lv_goto (tgt := 52) hx hb dX0_fairOf_132 (by decide) ?_
                      exact ih52 f323 i329 ((fm_I g325 r12 rfl).trans ((fm_I g309 r12 rfl).trans m282)) ((fm_R g325 r12 rfl).trans ((fm_R g309 r12 rfl).trans m283)) ((fm_I g325 r197 rfl).trans ((fm_I g309 r197 rfl).trans m284)) ((fm_R g325 rh0 rfl).trans m314) ((fm_R g325 rh0 rfl).trans ((fm_R g309 rh0 rfl).trans m304)) (by omega) (by omega) (by omega) _ _ _ hW hF (lv_sub hl [0, 2, 3, 4, 5, 6] rfl)
                    · refine lv_lconst (v := 0) hx hb dX0_fairOf_116 (by decide) ?_
                      refine lv_lload hx hb dX0_fairOf_117 (lv_at hl 0 rfl) ?_
                      refine lv_iload_n hx hb dX0_fairOf_119 rfl (lv_at hl 4 rfl) ?_
                      refine q_i2l hx hb dX0_fairOf_120 rfl (fun x331 h332 => ?_)
                      have hb333 : -2147483648 ≤ x331.toInt ∧ x331.toInt ≤ 2147483647 := by have := i32_b x8; omega
                      refine t_min_long (own := RX0) E tw_742 ⟨tw_743, tw_115, tw_744⟩ hl.1 ⟨Nat.le_of_ble_eq_true rfl, Nat.le_of_ble_eq_true rfl⟩ ⟨Nat.le_of_ble_eq_true rfl, Nat.le_of_ble_eq_true rfl⟩ rfl rfl dX0_fairOf_121 (fun x334 h335 => ?_)
                      refine t_max_long (X := 0) (own := RX0) E tw_745 ⟨tw_746, tw_115, tw_747⟩ hl.1 ⟨Nat.le_of_ble_eq_true rfl, Nat.le_of_ble_eq_true rfl⟩ ⟨Nat.le_of_ble_eq_true rfl, Nat.le_of_ble_eq_true rfl⟩ rfl rfl dX0_fairOf_124 (fun x336 h337 => ?_)
                      refine q_l2i hx hb dX0_fairOf_127 rfl (by omega) (fun x338 h339 => ?_)
                      exact e_I E hW rfl ⟨⟨_, rfl, (by first | omega | trivial)⟩, hF⟩ dX0_fairOf_128
                  · refine lv_goto (tgt := 129) hx hb dX0_fairOf_84 (by decide) ?_
                    refine q_iinc hx hb dX0_fairOf_129 hl (k := 0) rfl rfl rfl (by omega) (by decide) (fun i340 ls h341 hl => ?_)
                    have hl : lv_has ls 8 [(5, .int i340), (4, .ref a196), (3, .int y183), (2, .int x8), (0, .ref h0), (1, .int u1)] := hl
                    refine lv_goto (tgt := 52) hx hb dX0_fairOf_132 (by decide) ?_
                    exact ih52 f307 i340 ((fm_I g309 r12 rfl).trans m282) ((fm_R g309 r12 rfl).trans m283) ((fm_I g309 r197 rfl).trans m284) ((fm_R g309 rh0 rfl).trans m285) ((fm_R g309 rh0 rfl).trans m304) (by omega) (by omega) (by omega) _ _ _ hW hF (lv_sub hl [0, 1, 2, 3, 4, 5] rfl)
          exact L290 13 f179 x221 m180 m191 m219 m181 m188 (by omega) (by omega) (by omega) _ _ _ hW hF (lv_sub hl [0, 1, 2, 3, 4, 5] rfl)
  exact L185 21 f5 x16 m14 ((fm_R g7 rh0 rfl).trans m2) m11 (by omega) (by omega) _ _ _ hW hF (lv_sub hl [0, 1, 2, 3] rfl)
def ms_X0_collectRents : List (Nat × Nat) := [(0, 13), (115, 0), (165, 0), (169, 0), (342, 0), (345, 0)]
def po_X0_collectRents (kp : Nat → Nat) (L : List Nat) (f0 : Nat → va_E) (h0 : Nat) : Option Value → (Nat → va_E) → Prop := fun v f => v = none ∧ FM kp L ms_X0_collectRents f0 f
set_option maxHeartbeats 4000000 in
set_option maxRecDepth 100000 in
theorem c_X0_collectRents (l : Launch) (G : va_G) (cI cJ cZ cD cR cT : ClassId) (kp : Nat → Nat) (L : List Nat) (f0 : Nat → va_E) (hTH : TH cI cJ cZ cD cR cT kp L f0) (sz : Nat) (h0 : Nat) (rh0 : RK kp L h0 0) : Met l yX0_collectRents (Cond.code yX0_collectRents cX0_collectRents 7 none :: wTab) ({ frames := 5, cells := 0, slots := 0, locals := 144 }) (va_Pc [.ref h0] (PreW G (tys6 cI cJ cZ cD cR cT) (va_pl L f0) sz)) (QT (po_X0_collectRents kp L f0 h0) G cI cJ cZ cD cR cT (va_A (va_pl L f0) sz) kp L) 0 0 (va_A (va_pl L f0) sz) := by
  refine metT (by decide) (Nat.le_of_ble_eq_true rfl) hTH ?_
  intro p e s m below meth c A ls E hW hl
  obtain ⟨hx, hb, -, hml, hown, hts, -, -, -⟩ := id E
  have hF : FM kp L ms_X0_collectRents f0 f0 := FM.rf
  have hl : lv_has ls 7 [(0, .ref h0)] := hl
  refine lv_iconst (v := 0) hx hb dX0_collectRents_0 (by decide) ?_
  refine lv_istore_n (lv' := [(1, .int 0), (0, .ref h0)]) hx hb dX0_collectRents_1 rfl hl (by decide) rfl (fun ls hl => ?_)
  have L6141 : ∀ (n : Nat), ∀ (f6138 : Nat → va_E) (y6139 : Int32) (b6140 : (0 : Int) ≤ y6139.toInt ∧ y6139.toInt ≤ 40) (hm : (41 : Int) - y6139.toInt ≤ n) (H : Heap) (locs : List Loc) (ls : Array Slot), WS G cI cJ cZ cD cR cT A kp L f6138 s H locs → FM kp L ms_X0_collectRents f0 f6138 → lv_has ls 7 [(1, .int y6139), (0, .ref h0)] → W p l e ({ frames := 5, cells := 0, slots := 0, locals := 144 }) s m ([.ref h0] : List Value).toArray below meth c H locs 0 0 (MQ below (QT (po_X0_collectRents kp L f0 h0) G cI cJ cZ cD cR cT A kp L) ([.ref h0] : List Value).toArray s 0 0 A) (F0 m 2 ls []) := by
    intro n
    induction n with
    | zero =>
      intro f6138 y6139 b6140 hm H locs ls hW hF hl
      have hz := i32_b y6139
      exfalso; omega
    | succ n ih =>
      intro f6138 y6139 b6140 hm H locs ls hW hF hl
      have ih2 := ih
      refine lv_iload_n hx hb dX0_collectRents_2 rfl (lv_at hl 0 rfl) ?_
      refine lv_aload_n hx hb dX0_collectRents_3 rfl (lv_at hl 1 rfl) ?_
      refine fg_RX0_21 E hW rh0 dX0_collectRents_4 (fun a6142 m6143 r6144 => ?_)
      refine fg_RX0_171 E hW r6144 dX0_collectRents_7 (fun y6145 m6146 b6147 => ?_)
      refine q_icmp_ge (tgt := 181) hx hb dX0_collectRents_10 (by decide) rfl rfl (fun c6461 => ?_) (fun c6461 => ?_)
      · exact e_V E hW rfl ⟨rfl, hF⟩ dX0_collectRents_181
      · refine lv_aload_n hx hb dX0_collectRents_13 rfl (lv_at hl 1 rfl) ?_
        refine fg_RX0_21 E hW rh0 dX0_collectRents_14 (fun a6462 m6463 r6464 => ?_)
        obtain rfl : a6142 = a6462 := (m6143).symm.trans m6463
        refine fg_RX0_124 E hW r6144 dX0_collectRents_17 (fun a6465 m6466 r6467 => ?_)
        refine lv_iload_n hx hb dX0_collectRents_20 rfl (lv_at hl 0 rfl) ?_
        refine gl_164 E hW r6467 ⟨by omega, by omega⟩ dX0_collectRents_21 (fun y6468 m6469 b6470 => ?_)
        refine lv_istore_n (lv' := [(2, .int y6468), (1, .int y6139), (0, .ref h0)]) hx hb dX0_collectRents_22 rfl hl (by decide) rfl (fun ls hl => ?_)
        refine lv_iload_n hx hb dX0_collectRents_23 rfl (lv_at hl 0 rfl) ?_
        refine lv_iconst (v := (-1)) hx hb dX0_collectRents_24 (by decide) ?_
        have J6623 : ∀ (f6619 : Nat → va_E) (m6620 : oI (f6619 a6142) 0 = y6145) (m6621 : oR (f6619 a6142) 4 = a6465) (m6622 : oR (f6619 h0) 1 = a6142) (H : Heap) (locs : List Loc) (ls : Array Slot), WS G cI cJ cZ cD cR cT A kp L f6619 s H locs → FM kp L ms_X0_collectRents f0 f6619 → lv_has ls 7 [(2, .int y6468), (1, .int y6139), (0, .ref h0)] → W p l e ({ frames := 5, cells := 0, slots := 0, locals := 144 }) s m ([.ref h0] : List Value).toArray below meth c H locs 0 0 (MQ below (QT (po_X0_collectRents kp L f0 h0) G cI cJ cZ cD cR cT A kp L) ([.ref h0] : List Value).toArray s 0 0 A) (F0 m 175 ls []) := by
          intro f6619 m6620 m6621 m6622 H locs ls hW hF hl
          refine q_iinc hx hb dX0_collectRents_175 hl (k := 1) rfl rfl rfl (by omega) (by decide) (fun i6624 ls h6625 hl => ?_)
          have hl : lv_has ls 7 [(1, .int i6624), (2, .int y6468), (0, .ref h0)] := hl
          refine lv_goto (tgt := 2) hx hb dX0_collectRents_178 (by decide) ?_
          exact ih2 f6619 i6624 (by omega) (by omega) _ _ _ hW hF (lv_sub hl [0, 2] rfl)
        refine q_icmp_eq (Y := -1) (tgt := 175) hx hb dX0_collectRents_25 (by decide) rfl rfl (fun c6626 => ?_) (fun c6626 => ?_)
        · exact J6623 f6138 m6146 m6466 m6463 _ _ _ hW hF (lv_sub hl [0, 1, 2] rfl)
        · refine lv_aload_n hx hb dX0_collectRents_28 rfl (lv_at hl 2 rfl) ?_
          refine fg_RX0_12 E hW rh0 dX0_collectRents_29 (fun a6627 m6628 r6629 => ?_)
          refine fg_RX0_182 E hW r6629 dX0_collectRents_32 (fun a6630 m6631 r6632 => ?_)
          refine lv_iload_n hx hb dX0_collectRents_35 rfl (lv_at hl 0 rfl) ?_
          refine gl_346 E hW r6632 ⟨by omega, by omega⟩ dX0_collectRents_36 (fun y6633 m6634 => ?_)
          refine q_if_ne (tgt := 175) hx hb dX0_collectRents_37 (by decide) rfl (fun c6636 => ?_) (fun c6636 => ?_)
          · exact J6623 f6138 m6146 m6466 m6463 _ _ _ hW hF (lv_sub hl [0, 1, 2] rfl)
          · refine lv_aload_n hx hb dX0_collectRents_40 rfl (lv_at hl 2 rfl) ?_
            refine fg_RX0_21 E hW rh0 dX0_collectRents_41 (fun a6637 m6638 r6639 => ?_)
            obtain rfl : a6142 = a6637 := (m6463).symm.trans m6638
            refine lv_iload_n hx hb dX0_collectRents_44 rfl (lv_at hl 1 rfl) ?_
            refine t_callV (As := [.int y6139]) (rest := []) E hW (c_X1_rentOf l G cI cJ cZ cD cR cT kp L f6138 hW.2.2.2 _ a6142 y6139 r6144 (by omega)) r6144 (by decide) rfl wk_X1_rentOf tw_709 rfl ⟨Nat.le_of_ble_eq_true rfl, Nat.le_of_ble_eq_true rfl⟩ ⟨rfl, rfl⟩ hl.1 rfl (Nat.le_of_ble_eq_true rfl) dX0_collectRents_45 ⟨Nat.le_of_ble_eq_true rfl, Nat.le_of_ble_eq_true rfl⟩ (fun v6640 f6641 H locs q6642 hW => ?_)
            obtain ⟨⟨x6644, rfl, p6645⟩, g6643⟩ := q6642
            have hF := FM.tr hF g6643 rfl
            refine lv_aload_n hx hb dX0_collectRents_48 rfl (lv_at hl 2 rfl) ?_
            refine fg_RX0_21 E hW rh0 dX0_collectRents_49 (fun a6646 m6647 r6648 => ?_)
            obtain rfl : a6142 = a6646 := (((fm_R g6643 rh0 rfl).trans m6638)).symm.trans m6647
            refine fg_RX0_188 E hW r6144 dX0_collectRents_52 (fun a6649 m6650 r6651 => ?_)
            refine lv_iload_n hx hb dX0_collectRents_55 rfl (lv_at hl 1 rfl) ?_
            refine gl_165 E hW r6651 ⟨by omega, by omega⟩ dX0_collectRents_56 (fun y6652 m6653 => ?_)
            refine u_iadd hx hb dX0_collectRents_57 (fun x6655 => ?_)
            refine lv_istore_n (lv' := [(3, .int x6655), (2, .int y6468), (1, .int y6139), (0, .ref h0)]) hx hb dX0_collectRents_58 rfl hl (by decide) rfl (fun ls hl => ?_)
            refine lv_aload_n hx hb dX0_collectRents_59 rfl (lv_at hl 3 rfl) ?_
            refine fg_RX0_53 E hW rh0 dX0_collectRents_60 (fun a6656 m6657 r6658 => ?_)
            refine lv_iload_n hx hb dX0_collectRents_63 rfl (lv_at hl 2 rfl) ?_
            refine gl_108 E hW r6658 ⟨by omega, by omega⟩ dX0_collectRents_64 (fun y6659 m6660 => ?_)
            refine lv_iconst (v := (-1)) hx hb dX0_collectRents_65 (by decide) ?_
            have J6685 : ∀ (f6675 : Nat → va_E) (y6683 : Int32) (m6676 : oI (f6675 a6142) 0 = y6145) (m6677 : oR (f6675 a6142) 4 = a6465) (m6678 : oR (f6675 a6142) 5 = a6649) (m6679 : oR (f6675 a6627) 6 = a6630) (m6680 : oR (f6675 h0) 0 = a6627) (m6681 : oR (f6675 h0) 1 = a6142) (m6682 : oR (f6675 h0) 8 = a6656) (b6684 : (0 : Int) ≤ y6683.toInt ∧ y6683.toInt ≤ 1) (H : Heap) (locs : List Loc) (ls : Array Slot), WS G cI cJ cZ cD cR cT A kp L f6675 s H locs → FM kp L ms_X0_collectRents f0 f6675 → lv_has ls 7 [(3, .int x6655), (2, .int y6468), (1, .int y6139), (0, .ref h0)] → W p l e ({ frames := 5, cells := 0, slots := 0, locals := 144 }) s m ([.ref h0] : List Value).toArray below meth c H locs 0 0 (MQ below (QT (po_X0_collectRents kp L f0 h0) G cI cJ cZ cD cR cT A kp L) ([.ref h0] : List Value).toArray s 0 0 A) (F0 m 96 ls [.int y6683]) := by
              intro f6675 y6683 m6676 m6677 m6678 m6679 m6680 m6681 m6682 b6684 H locs ls hW hF hl
              clear c6636 p6645
              refine lv_istore (lv' := [(4, .int y6683), (3, .int x6655), (2, .int y6468), (1, .int y6139), (0, .ref h0)]) hx hb dX0_collectRents_96 hl (by decide) rfl (fun ls hl => ?_)
              refine lv_iload hx hb dX0_collectRents_98 (lv_at hl 0 rfl) ?_
              have J6701 : ∀ (f6692 : Nat → va_E) (y6700 : Int32) (m6693 : oI (f6692 a6142) 0 = y6145) (m6694 : oR (f6692 a6142) 4 = a6465) (m6695 : oR (f6692 a6142) 5 = a6649) (m6696 : oR (f6692 a6627) 6 = a6630) (m6697 : oR (f6692 h0) 0 = a6627) (m6698 : oR (f6692 h0) 1 = a6142) (m6699 : oR (f6692 h0) 8 = a6656) (H : Heap) (locs : List Loc) (ls : Array Slot), WS G cI cJ cZ cD cR cT A kp L f6692 s H locs → FM kp L ms_X0_collectRents f0 f6692 → lv_has ls 7 [(4, .int y6683), (3, .int x6655), (2, .int y6468), (1, .int y6139), (0, .ref h0)] → W p l e ({ frames := 5, cells := 0, slots := 0, locals := 144 }) s m ([.ref h0] : List Value).toArray below meth c H locs 0 0 (MQ below (QT (po_X0_collectRents kp L f0 h0) G cI cJ cZ cD cR cT A kp L) ([.ref h0] : List Value).toArray s 0 0 A) (F0 m 112 ls [.int y6700]) := by
                intro f6692 y6700 m6693 m6694 m6695 m6696 m6697 m6698 m6699 H locs ls hW hF hl
                refine lv_istore (lv' := [(5, .int y6700), (4, .int y6683), (3, .int x6655), (2, .int y6468), (1, .int y6139), (0, .ref h0)]) hx hb dX0_collectRents_112 hl (by decide) rfl (fun ls hl => ?_)
                refine lv_aload_n hx hb dX0_collectRents_114 rfl (lv_at hl 5 rfl) ?_
                refine lv_iload_n hx hb dX0_collectRents_115 rfl (lv_at hl 3 rfl) ?_
                refine lv_iload hx hb dX0_collectRents_116 (lv_at hl 0 rfl) ?_
                refine t_callV (As := [.int y6468, .int y6700]) (rest := []) E hW (c_X0_pay l G cI cJ cZ cD cR cT kp L f6692 hW.2.2.2 _ h0 y6468 y6700 rh0 (by omega)) rh0 (by decide) rfl wk_X0_pay tw_1129 rfl ⟨Nat.le_of_ble_eq_true rfl, Nat.le_of_ble_eq_true rfl⟩ ⟨rfl, rfl⟩ hl.1 rfl (Nat.le_of_ble_eq_true rfl) dX0_collectRents_118 ⟨Nat.le_of_ble_eq_true rfl, Nat.le_of_ble_eq_true rfl⟩ (fun v6702 f6703 H locs q6704 hW => ?_)
                obtain ⟨⟨x6706, rfl, p6707⟩, g6705⟩ := q6704
                clear p6707
                have hF := FM.tr hF g6705 rfl
                refine lv_istore (lv' := [(6, .int x6706), (5, .int y6700), (4, .int y6683), (3, .int x6655), (2, .int y6468), (1, .int y6139), (0, .ref h0)]) hx hb dX0_collectRents_121 hl (by decide) rfl (fun ls hl => ?_)
                refine lv_aload_n hx hb dX0_collectRents_123 rfl (lv_at hl 6 rfl) ?_
                refine fg_RX0_21 E hW rh0 dX0_collectRents_124 (fun a6708 m6709 r6710 => ?_)
                obtain rfl : a6142 = a6708 := (((fm_R g6705 rh0 rfl).trans m6698)).symm.trans m6709
                refine fg_RX0_201 E hW r6144 dX0_collectRents_127 (fun a6711 m6712 r6713 => ?_)
                refine lv_aload_n hx hb dX0_collectRents_130 rfl (lv_at hl 6 rfl) ?_
                refine fg_RX0_21 E hW rh0 dX0_collectRents_131 (fun a6714 m6715 r6716 => ?_)
                obtain rfl : a6142 = a6714 := (m6709).symm.trans m6715
                refine fg_RX0_204 E hW r6144 dX0_collectRents_134 (fun a6717 m6718 r6719 => ?_)
                refine lv_iload_n hx hb dX0_collectRents_137 rfl (lv_at hl 5 rfl) ?_
                refine gl_161 E hW r6719 ⟨by omega, by omega⟩ dX0_collectRents_138 (fun y6720 m6721 b6722 => ?_)
                refine lv_dup2_11 hx hb dX0_collectRents_139 rfl rfl ?_
                refine gl_169 E hW r6713 ⟨by omega, by omega⟩ dX0_collectRents_140 (fun y6723 m6724 => ?_)
                refine lv_iload hx hb dX0_collectRents_141 (lv_at hl 0 rfl) ?_
                refine u_iadd hx hb dX0_collectRents_143 (fun x6726 => ?_)
                refine gs_169 E hW r6713 ⟨by omega, by omega⟩ dX0_collectRents_144 (fun f6727 H locs e6728 n6729 g6730 hW => ?_)
                have hF := FM.tr hF g6730 rfl
                refine lv_aload_n hx hb dX0_collectRents_145 rfl (lv_at hl 6 rfl) ?_
                refine lv_dup hx hb dX0_collectRents_146 rfl ?_
                refine fg_RX0_103 E hW rh0 dX0_collectRents_147 (fun y6731 m6732 => ?_)
                refine lv_iload hx hb dX0_collectRents_150 (lv_at hl 0 rfl) ?_
                refine q_i2l hx hb dX0_collectRents_152 rfl (fun x6733 h6734 => ?_)
                have hb6735 : -2147483648 ≤ x6733.toInt ∧ x6733.toInt ≤ 2147483647 := by have := i32_b x6706; omega
                refine u_ladd hx hb dX0_collectRents_153 (fun x6736 => ?_)
                refine fp_RX0_103 E hW rh0 dX0_collectRents_154 (fun f6737 H locs e6738 n6739 g6740 hW => ?_)
                have hF := FM.tr hF g6740 rfl
                refine lv_aload_n hx hb dX0_collectRents_157 rfl (lv_at hl 6 rfl) ?_
                refine fg_RX0_21 E hW rh0 dX0_collectRents_158 (fun a6741 m6742 r6743 => ?_)
                obtain rfl : a6142 = a6741 := (((fm_R g6740 rh0 rfl).trans ((fm_R g6730 rh0 rfl).trans m6715))).symm.trans m6742
                refine fg_RX0_188 E hW r6144 dX0_collectRents_161 (fun a6744 m6745 r6746 => ?_)
                obtain rfl : a6649 = a6744 := (((fm_R g6740 r6144 rfl).trans ((fm_R g6730 r6144 rfl).trans ((fm_R g6705 r6144 rfl).trans m6695)))).symm.trans m6745
                refine lv_iload_n hx hb dX0_collectRents_164 rfl (lv_at hl 5 rfl) ?_
                refine lv_iload_n hx hb dX0_collectRents_165 rfl (lv_at hl 3 rfl) ?_
                refine lv_iload hx hb dX0_collectRents_166 (lv_at hl 0 rfl) ?_
                refine u_isub hx hb dX0_collectRents_168 (fun x6747 => ?_)
                refine lv_ldc (v := 10000000) hx hb hown (hts _ tw_1134) dX0_collectRents_169 ?_
                refine t_min (Y := 10000000) (own := RX0) E tw_1133 ⟨tw_637, tw_115, tw_638⟩ hl.1 ⟨Nat.le_of_ble_eq_true rfl, Nat.le_of_ble_eq_true rfl⟩ ⟨Nat.le_of_ble_eq_true rfl, Nat.le_of_ble_eq_true rfl⟩ rfl rfl dX0_collectRents_171 (fun x6748 h6749 => ?_)
                refine gs_165 E hW r6651 ⟨by omega, by omega⟩ dX0_collectRents_174 (fun f6750 H locs e6751 n6752 g6753 hW => ?_)
                have hF := FM.tr hF g6753 rfl
                exact J6623 f6750 ((fm_I g6753 r6144 rfl).trans ((fm_I g6740 r6144 rfl).trans ((fm_I g6730 r6144 rfl).trans ((fm_I g6705 r6144 rfl).trans m6693)))) ((fm_R g6753 r6144 rfl).trans ((fm_R g6740 r6144 rfl).trans ((fm_R g6730 r6144 rfl).trans ((fm_R g6705 r6144 rfl).trans m6694)))) ((fm_R g6753 rh0 rfl).trans m6742) _ _ _ hW hF (lv_sub hl [4, 5, 6] rfl)
              refine q_if_eq (tgt := 111) hx hb dX0_collectRents_100 (by decide) rfl (fun c6754 => ?_) (fun c6754 => ?_)
              · refine lv_iload_n hx hb dX0_collectRents_111 rfl (lv_at hl 1 rfl) ?_
                exact J6701 f6675 x6655 m6676 m6677 m6678 m6679 m6680 m6681 m6682 _ _ _ hW hF (lv_sub hl [0, 1, 2, 3, 4] rfl)
              · refine lv_aload_n hx hb dX0_collectRents_103 rfl (lv_at hl 4 rfl) ?_
                refine lv_iload_n hx hb dX0_collectRents_104 rfl (lv_at hl 3 rfl) ?_
                refine t_callV (As := [.int y6139]) (rest := []) E hW (c_X0_fairOf l G cI cJ cZ cD cR cT kp L f6675 hW.2.2.2 _ h0 y6139 rh0 (by omega)) rh0 (by decide) rfl wk_X0_fairOf tw_1128 rfl ⟨Nat.le_of_ble_eq_true rfl, Nat.le_of_ble_eq_true rfl⟩ ⟨rfl, rfl⟩ hl.1 rfl (Nat.le_of_ble_eq_true rfl) dX0_collectRents_105 ⟨Nat.le_of_ble_eq_true rfl, Nat.le_of_ble_eq_true rfl⟩ (fun v6755 f6756 H locs q6757 hW => ?_)
                obtain ⟨⟨x6759, rfl, p6760⟩, g6758⟩ := q6757
                have hF := FM.tr hF g6758 rfl
                refine lv_goto (tgt := 112) hx hb dX0_collectRents_108 (by decide) ?_
                exact J6701 f6756 x6759 ((fm_I g6758 r6144 rfl).trans m6676) ((fm_R g6758 r6144 rfl).trans m6677) ((fm_R g6758 r6144 rfl).trans m6678) ((fm_R g6758 r6629 rfl).trans m6679) ((fm_R g6758 rh0 rfl).trans m6680) ((fm_R g6758 rh0 rfl).trans m6681) ((fm_R g6758 rh0 rfl).trans m6682) _ _ _ hW hF (lv_sub hl [0, 1, 2, 3, 4] rfl)
            refine q_icmp_ne (Y := -1) (tgt := 81) hx hb dX0_collectRents_66 (by decide) rfl rfl (fun c6761 => ?_) (fun c6761 => ?_)
            · refine lv_aload_n hx hb dX0_collectRents_81 rfl (lv_at hl 3 rfl) ?_
              refine fg_RX0_53 E hW rh0 dX0_collectRents_82 (fun a6762 m6763 r6764 => ?_)
              obtain rfl : a6656 = a6762 := (m6657).symm.trans m6763
              refine lv_iload_n hx hb dX0_collectRents_85 rfl (lv_at hl 2 rfl) ?_
              refine gl_108 E hW r6658 ⟨by omega, by omega⟩ dX0_collectRents_86 (fun y6765 m6766 => ?_)
              obtain rfl : y6659 = y6765 := (m6660).symm.trans m6766
              refine lv_iconst (v := 1) hx hb dX0_collectRents_87 (by decide) ?_
              refine q_icmp_ne (Y := 1) (tgt := 95) hx hb dX0_collectRents_88 (by decide) rfl rfl (fun c6768 => ?_) (fun c6768 => ?_)
              · refine lv_iconst (v := 0) hx hb dX0_collectRents_95 (by decide) ?_
                exact J6685 f6641 0 ((fm_I g6643 r6144 rfl).trans m6146) ((fm_R g6643 r6144 rfl).trans m6466) m6650 ((fm_R g6643 r6629 rfl).trans m6631) ((fm_R g6643 rh0 rfl).trans m6628) m6647 m6763 (by decide) _ _ _ hW hF (lv_sub hl [0, 1, 2, 3] rfl)
              · refine lv_iconst (v := 1) hx hb dX0_collectRents_91 (by decide) ?_
                refine lv_goto (tgt := 96) hx hb dX0_collectRents_92 (by decide) ?_
                exact J6685 f6641 1 ((fm_I g6643 r6144 rfl).trans m6146) ((fm_R g6643 r6144 rfl).trans m6466) m6650 ((fm_R g6643 r6629 rfl).trans m6631) ((fm_R g6643 rh0 rfl).trans m6628) m6647 m6763 (by decide) _ _ _ hW hF (lv_sub hl [0, 1, 2, 3] rfl)
            · refine lv_aload_n hx hb dX0_collectRents_69 rfl (lv_at hl 3 rfl) ?_
              refine lv_sipush (v := 262) hx hb dX0_collectRents_70 (by decide) ?_
              refine lv_iload_n hx hb dX0_collectRents_73 rfl (lv_at hl 1 rfl) ?_
              refine lv_iload_n hx hb dX0_collectRents_74 rfl (lv_at hl 2 rfl) ?_
              refine t_callV (As := [.int 262, .int y6468, .int y6139]) (rest := []) E hW (c_X0_anyHolds l G cI cJ cZ cD cR cT kp L f6641 hW.2.2.2 _ h0 262 y6468 y6139 rh0 (by decide) (by omega) (by omega)) rh0 (by decide) rfl wk_X0_anyHolds tw_752 rfl ⟨Nat.le_of_ble_eq_true rfl, Nat.le_of_ble_eq_true rfl⟩ ⟨rfl, rfl⟩ hl.1 rfl (Nat.le_of_ble_eq_true rfl) dX0_collectRents_75 ⟨Nat.le_of_ble_eq_true rfl, Nat.le_of_ble_eq_true rfl⟩ (fun v6769 f6770 H locs q6771 hW => ?_)
              obtain ⟨⟨x6773, rfl, p6774⟩, g6772⟩ := q6771
              have p6774 : (0 : Int) ≤ x6773.toInt ∧ x6773.toInt ≤ 1 := p6774
              have hF := FM.tr hF g6772 rfl
              refine lv_goto (tgt := 96) hx hb dX0_collectRents_78 (by decide) ?_
              exact J6685 f6770 x6773 ((fm_I g6772 r6144 rfl).trans ((fm_I g6643 r6144 rfl).trans m6146)) ((fm_R g6772 r6144 rfl).trans ((fm_R g6643 r6144 rfl).trans m6466)) ((fm_R g6772 r6144 rfl).trans m6650) ((fm_R g6772 r6629 rfl).trans ((fm_R g6643 r6629 rfl).trans m6631)) ((fm_R g6772 rh0 rfl).trans ((fm_R g6643 rh0 rfl).trans m6628)) ((fm_R g6772 rh0 rfl).trans m6647) ((fm_R g6772 rh0 rfl).trans m6657) (by omega) _ _ _ hW hF (lv_sub hl [0, 1, 2, 3] rfl)
  have hk6775 : (0 : Int32).toInt = 0 := rfl
  exact L6141 41 f0 0 (by decide) (by omega) _ _ _ hW hF (lv_sub hl [0, 1] rfl)
def ms_X0_copyFrom : List (Nat × Nat) := [(0, 6), (0, 9), (0, 12), (0, 13), (1, 0), (1, 8), (1, 12), (1, 13), (1, 14), (2, 0), (3, 0), (3, 1), (3, 2), (3, 3), (4, 0), (10, 0), (10, 7), (108, 0), (161, 0), (162, 0), (163, 0), (164, 0), (165, 0), (166, 0), (167, 0), (169, 0), (170, 0), (171, 0), (221, 0), (284, 0), (285, 0), (341, 0), (342, 0), (343, 0), (344, 0), (345, 0), (346, 0), (347, 0), (348, 0), (520, 0), (521, 0), (701, 0), (702, 0), (703, 0), (704, 0), (705, 0), (706, 0), (708, 0), (709, 0), (710, 0)]
def po_X0_copyFrom (kp : Nat → Nat) (L : List Nat) (f0 : Nat → va_E) (h0 : Nat) (u1 : Nat) : Option Value → (Nat → va_E) → Prop := fun v f => v = none ∧ FM kp L ms_X0_copyFrom f0 f
set_option maxHeartbeats 4000000 in
set_option maxRecDepth 100000 in
theorem c_X0_copyFrom (l : Launch) (G : va_G) (cI cJ cZ cD cR cT : ClassId) (kp : Nat → Nat) (L : List Nat) (f0 : Nat → va_E) (hTH : TH cI cJ cZ cD cR cT kp L f0) (sz : Nat) (h0 : Nat) (u1 : Nat) (rh0 : RK kp L h0 0) (ru1 : RK kp L u1 0) : Met l yX0_copyFrom (Cond.code yX0_copyFrom cX0_copyFrom 2 none :: wTab) ({ frames := 2, cells := 0, slots := 0, locals := 82 }) (va_Pc [.ref h0, .ref u1] (PreW G (tys6 cI cJ cZ cD cR cT) (va_pl L f0) sz)) (QT (po_X0_copyFrom kp L f0 h0 u1) G cI cJ cZ cD cR cT (va_A (va_pl L f0) sz) kp L) 0 0 (va_A (va_pl L f0) sz) := by
  refine metT (by decide) (Nat.le_of_ble_eq_true rfl) hTH ?_
  intro p e s m below meth c A ls E hW hl
  obtain ⟨hx, hb, -, hml, hown, hts, -, -, -⟩ := id E
  have hF : FM kp L ms_X0_copyFrom f0 f0 := FM.rf
  have hl : lv_has ls 2 [(0, .ref h0), (1, .ref u1)] := hl
  refine lv_aload_n hx hb dX0_copyFrom_0 rfl (lv_at hl 0 rfl) ?_
  refine fg_RX0_12 E hW rh0 dX0_copyFrom_1 (fun a1 m2 r3 => ?_)
  refine lv_aload_n hx hb dX0_copyFrom_4 rfl (lv_at hl 1 rfl) ?_
  refine fg_RX0_12 E hW ru1 dX0_copyFrom_5 (fun a4 m5 r6 => ?_)
  refine t_callV (As := [.ref a4]) (rest := []) E hW (c_X4_copyFrom l G cI cJ cZ cD cR cT kp L f0 hW.2.2.2 _ a1 a4 r3 r6) r3 (by decide) rfl wk_X4_copyFrom tw_1289 rfl ⟨Nat.le_of_ble_eq_true rfl, Nat.le_of_ble_eq_true rfl⟩ ⟨rfl, rfl⟩ hl.1 rfl (Nat.le_of_ble_eq_true rfl) dX0_copyFrom_8 ⟨Nat.le_of_ble_eq_true rfl, Nat.le_of_ble_eq_true rfl⟩ (fun v7 f8 H locs q9 hW => ?_)
  obtain ⟨rfl, g10⟩ := q9
  have hF := FM.tr hF g10 rfl
  refine lv_aload_n hx hb dX0_copyFrom_11 rfl (lv_at hl 0 rfl) ?_
  refine fg_RX0_21 E hW rh0 dX0_copyFrom_12 (fun a11 m12 r13 => ?_)
  refine lv_aload_n hx hb dX0_copyFrom_15 rfl (lv_at hl 1 rfl) ?_
  refine fg_RX0_21 E hW ru1 dX0_copyFrom_16 (fun a14 m15 r16 => ?_)
  refine t_callV (As := [.ref a14]) (rest := []) E hW (c_X1_copyFrom l G cI cJ cZ cD cR cT kp L f8 hW.2.2.2 _ a11 a14 r13 r16) r13 (by decide) rfl wk_X1_copyFrom tw_1294 rfl ⟨Nat.le_of_ble_eq_true rfl, Nat.le_of_ble_eq_true rfl⟩ ⟨rfl, rfl⟩ hl.1 rfl (Nat.le_of_ble_eq_true rfl) dX0_copyFrom_19 ⟨Nat.le_of_ble_eq_true rfl, Nat.le_of_ble_eq_true rfl⟩ (fun v17 f18 H locs q19 hW => ?_)
  obtain ⟨rfl, g20⟩ := q19
  have hF := FM.tr hF g20 rfl
  refine lv_aload_n hx hb dX0_copyFrom_22 rfl (lv_at hl 0 rfl) ?_
  refine fg_RX0_28 E hW rh0 dX0_copyFrom_23 (fun a21 m22 r23 => ?_)
  refine lv_aload_n hx hb dX0_copyFrom_26 rfl (lv_at hl 1 rfl) ?_
  refine fg_RX0_28 E hW ru1 dX0_copyFrom_27 (fun a24 m25 r26 => ?_)
  refine t_callV (As := [.ref a24]) (rest := []) E hW (c_X10_copyFrom l G cI cJ cZ cD cR cT kp L f18 hW.2.2.2 _ a21 a24 r23 r26) r23 (by decide) rfl wk_X10_copyFrom tw_1299 rfl ⟨Nat.le_of_ble_eq_true rfl, Nat.le_of_ble_eq_true rfl⟩ ⟨rfl, rfl⟩ hl.1 rfl (Nat.le_of_ble_eq_true rfl) dX0_copyFrom_30 ⟨Nat.le_of_ble_eq_true rfl, Nat.le_of_ble_eq_true rfl⟩ (fun v27 f28 H locs q29 hW => ?_)
  obtain ⟨rfl, g30⟩ := q29
  have hF := FM.tr hF g30 rfl
  refine lv_aload_n hx hb dX0_copyFrom_33 rfl (lv_at hl 0 rfl) ?_
  refine fg_RX0_35 E hW rh0 dX0_copyFrom_34 (fun a31 m32 r33 => ?_)
  refine lv_aload_n hx hb dX0_copyFrom_37 rfl (lv_at hl 1 rfl) ?_
  refine fg_RX0_35 E hW ru1 dX0_copyFrom_38 (fun a34 m35 r36 => ?_)
  refine t_callV (As := [.ref a34]) (rest := []) E hW (c_X7_copyFrom l G cI cJ cZ cD cR cT kp L f28 hW.2.2.2 _ a31 a34 r33 r36) r33 (by decide) rfl wk_X7_copyFrom tw_1304 rfl ⟨Nat.le_of_ble_eq_true rfl, Nat.le_of_ble_eq_true rfl⟩ ⟨rfl, rfl⟩ hl.1 rfl (Nat.le_of_ble_eq_true rfl) dX0_copyFrom_41 ⟨Nat.le_of_ble_eq_true rfl, Nat.le_of_ble_eq_true rfl⟩ (fun v37 f38 H locs q39 hW => ?_)
  obtain ⟨rfl, g40⟩ := q39
  have hF := FM.tr hF g40 rfl
  refine lv_aload_n hx hb dX0_copyFrom_44 rfl (lv_at hl 0 rfl) ?_
  refine fg_RX0_42 E hW rh0 dX0_copyFrom_45 (fun a41 m42 r43 => ?_)
  refine lv_aload_n hx hb dX0_copyFrom_48 rfl (lv_at hl 1 rfl) ?_
  refine fg_RX0_42 E hW ru1 dX0_copyFrom_49 (fun a44 m45 r46 => ?_)
  refine t_callV (As := [.ref a44]) (rest := []) E hW (c_X2_copyFrom l G cI cJ cZ cD cR cT kp L f38 hW.2.2.2 _ a41 a44 r43 r46) r43 (by decide) rfl wk_X2_copyFrom tw_1309 rfl ⟨Nat.le_of_ble_eq_true rfl, Nat.le_of_ble_eq_true rfl⟩ ⟨rfl, rfl⟩ hl.1 rfl (Nat.le_of_ble_eq_true rfl) dX0_copyFrom_52 ⟨Nat.le_of_ble_eq_true rfl, Nat.le_of_ble_eq_true rfl⟩ (fun v47 f48 H locs q49 hW => ?_)
  obtain ⟨rfl, g50⟩ := q49
  have hF := FM.tr hF g50 rfl
  refine lv_aload_n hx hb dX0_copyFrom_55 rfl (lv_at hl 0 rfl) ?_
  refine fg_RX0_49 E hW rh0 dX0_copyFrom_56 (fun a51 m52 r53 => ?_)
  refine lv_aload_n hx hb dX0_copyFrom_59 rfl (lv_at hl 1 rfl) ?_
  refine fg_RX0_49 E hW ru1 dX0_copyFrom_60 (fun a54 m55 r56 => ?_)
  refine t_callV (As := [.ref a54]) (rest := []) E hW (c_X3_copyFrom l G cI cJ cZ cD cR cT kp L f48 hW.2.2.2 _ a51 a54 r53 r56) r53 (by decide) rfl wk_X3_copyFrom tw_1313 rfl ⟨Nat.le_of_ble_eq_true rfl, Nat.le_of_ble_eq_true rfl⟩ ⟨rfl, rfl⟩ hl.1 rfl (Nat.le_of_ble_eq_true rfl) dX0_copyFrom_63 ⟨Nat.le_of_ble_eq_true rfl, Nat.le_of_ble_eq_true rfl⟩ (fun v57 f58 H locs q59 hW => ?_)
  obtain ⟨rfl, g60⟩ := q59
  have hF := FM.tr hF g60 rfl
  refine lv_aload_n hx hb dX0_copyFrom_66 rfl (lv_at hl 0 rfl) ?_
  refine lv_aload_n hx hb dX0_copyFrom_67 rfl (lv_at hl 1 rfl) ?_
  refine fg_RX0_93 E hW ru1 dX0_copyFrom_68 (fun y61 m62 b63 => ?_)
  refine fp_RX0_93 E hW rh0 (by omega) dX0_copyFrom_71 (fun f64 H locs e65 n66 g67 hW => ?_)
  have hF := FM.tr hF g67 rfl
  refine lv_aload_n hx hb dX0_copyFrom_74 rfl (lv_at hl 0 rfl) ?_
  refine fg_RX0_53 E hW rh0 dX0_copyFrom_75 (fun a68 m69 r70 => ?_)
  refine lv_iconst (v := (-1)) hx hb dX0_copyFrom_78 (by decide) ?_
  refine t_callS (As := [.ref a68, .int (-1)]) (rest := []) E hW (c_fill l G cI cJ cZ cD cR cT kp L f64 hW.2.2.2 _ a68 (-1) 108 r70 (by decide) rfl (by decide) (fun _ _ _ => trivial) (by decide)) wk_J7_fill_53178 tw_390 rfl ⟨Nat.le_of_ble_eq_true rfl, Nat.le_of_ble_eq_true rfl⟩ ⟨rfl, rfl⟩ hl.1 rfl (Nat.le_of_ble_eq_true rfl) dX0_copyFrom_79 ⟨Nat.le_of_ble_eq_true rfl, Nat.le_of_ble_eq_true rfl⟩ (fun v74 f71 H locs q73 hW => ?_)
  obtain ⟨rfl, g72⟩ := q73
  have hF := FM.tr hF g72 rfl
  refine lv_aload_n hx hb dX0_copyFrom_82 rfl (lv_at hl 0 rfl) ?_
  refine lv_iconst (v := 0) hx hb dX0_copyFrom_83 (by decide) ?_
  refine fp_RX0_97 E hW rh0 (by decide) dX0_copyFrom_84 (fun f75 H locs e76 n77 g78 hW => ?_)
  have hF := FM.tr hF g78 rfl
  refine lv_aload_n hx hb dX0_copyFrom_87 rfl (lv_at hl 0 rfl) ?_
  refine lv_iconst (v := 0) hx hb dX0_copyFrom_88 (by decide) ?_
  refine fp_RX0_100 E hW rh0 dX0_copyFrom_89 (fun f79 H locs e80 n81 g82 hW => ?_)
  have hF := FM.tr hF g82 rfl
  refine lv_aload_n hx hb dX0_copyFrom_92 rfl (lv_at hl 0 rfl) ?_
  refine lv_lconst (v := 0) hx hb dX0_copyFrom_93 (by decide) ?_
  refine fp_RX0_103 E hW rh0 dX0_copyFrom_94 (fun f83 H locs e84 n85 g86 hW => ?_)
  have hF := FM.tr hF g86 rfl
  exact e_V E hW rfl ⟨rfl, hF⟩ dX0_copyFrom_97
def ms_X0_drawOf : List (Nat × Nat) := [(115, 0)]
def po_X0_drawOf (kp : Nat → Nat) (L : List Nat) (f0 : Nat → va_E) (h0 : Nat) (u1 : Int32) : Option Value → (Nat → va_E) → Prop := fun v f => (∃ r : Int64, v = some (.long r) ∧ (True)) ∧ FM kp L ms_X0_drawOf f0 f
set_option maxHeartbeats 4000000 in
set_option maxRecDepth 100000 in
theorem c_X0_drawOf (l : Launch) (G : va_G) (cI cJ cZ cD cR cT : ClassId) (kp : Nat → Nat) (L : List Nat) (f0 : Nat → va_E) (hTH : TH cI cJ cZ cD cR cT kp L f0) (sz : Nat) (h0 : Nat) (u1 : Int32) (rh0 : RK kp L h0 0) (pu1 : (0 : Int) ≤ u1.toInt ∧ u1.toInt ≤ 39) : Met l yX0_drawOf (Cond.code yX0_drawOf cX0_drawOf 9 (some .long) :: wTab) ({ frames := 4, cells := 0, slots := 0, locals := 117 }) (va_Pc [.ref h0, .int u1] (PreW G (tys6 cI cJ cZ cD cR cT) (va_pl L f0) sz)) (QT (po_X0_drawOf kp L f0 h0 u1) G cI cJ cZ cD cR cT (va_A (va_pl L f0) sz) kp L) 0 0 (va_A (va_pl L f0) sz) := by
  refine metT (by decide) (Nat.le_of_ble_eq_true rfl) hTH ?_
  intro p e s m below meth c A ls E hW hl
  obtain ⟨hx, hb, -, hml, hown, hts, -, -, -⟩ := id E
  have hF : FM kp L ms_X0_drawOf f0 f0 := FM.rf
  have hl : lv_has ls 9 [(0, .ref h0), (1, .int u1)] := hl
  refine lv_lconst (v := 0) hx hb dX0_drawOf_0 (by decide) ?_
  refine lv_lstore_n (lv' := [(2, .long 0), (0, .ref h0), (1, .int u1)]) hx hb dX0_drawOf_1 rfl hl (by decide) rfl (fun ls hl => ?_)
  refine lv_iconst (v := 0) hx hb dX0_drawOf_2 (by decide) ?_
  refine lv_istore (lv' := [(4, .int 0), (2, .long 0), (0, .ref h0), (1, .int u1)]) hx hb dX0_drawOf_3 hl (by decide) rfl (fun ls hl => ?_)
  have L15739 : ∀ (n : Nat), ∀ (f15735 : Nat → va_E) (y15736 : Int32) (y15738 : Int64) (b15737 : (0 : Int) ≤ y15736.toInt ∧ y15736.toInt ≤ 20) (hm : (21 : Int) - y15736.toInt ≤ n) (H : Heap) (locs : List Loc) (ls : Array Slot), WS G cI cJ cZ cD cR cT A kp L f15735 s H locs → FM kp L ms_X0_drawOf f0 f15735 → lv_has ls 9 [(4, .int y15736), (2, .long y15738), (0, .ref h0), (1, .int u1)] → W p l e ({ frames := 4, cells := 0, slots := 0, locals := 117 }) s m ([.ref h0, .int u1] : List Value).toArray below meth c H locs 0 0 (MQ below (QT (po_X0_drawOf kp L f0 h0 u1) G cI cJ cZ cD cR cT A kp L) ([.ref h0, .int u1] : List Value).toArray s 0 0 A) (F0 m 5 ls []) := by
    intro n
    induction n with
    | zero =>
      intro f15735 y15736 y15738 b15737 hm H locs ls hW hF hl
      have hz := i32_b y15736
      exfalso; omega
    | succ n ih =>
      intro f15735 y15736 y15738 b15737 hm H locs ls hW hF hl
      have ih5 := ih
      refine lv_iload hx hb dX0_drawOf_5 (lv_at hl 0 rfl) ?_
      refine lv_aload_n hx hb dX0_drawOf_7 rfl (lv_at hl 2 rfl) ?_
      refine fg_RX0_42 E hW rh0 dX0_drawOf_8 (fun a15740 m15741 r15742 => ?_)
      refine fg_RX0_286 E hW r15742 dX0_drawOf_11 (fun y15743 m15744 b15745 => ?_)
      refine q_icmp_ge (tgt := 117) hx hb dX0_drawOf_14 (by decide) rfl rfl (fun c16718 => ?_) (fun c16718 => ?_)
      · refine lv_lload_n hx hb dX0_drawOf_117 rfl (lv_at hl 1 rfl) ?_
        exact e_J E hW rfl ⟨⟨_, rfl, trivial⟩, hF⟩ dX0_drawOf_118
      · refine lv_aload_n hx hb dX0_drawOf_17 rfl (lv_at hl 2 rfl) ?_
        refine fg_RX0_42 E hW rh0 dX0_drawOf_18 (fun a16719 m16720 r16721 => ?_)
        obtain rfl : a15740 = a16719 := (m15741).symm.trans m16720
        refine fg_RX0_287 E hW r15742 dX0_drawOf_21 (fun a16722 m16723 r16724 => ?_)
        refine lv_iload hx hb dX0_drawOf_24 (lv_at hl 0 rfl) ?_
        refine gl_221 E hW r16724 ⟨by omega, by omega⟩ dX0_drawOf_26 (fun o16725 m16727 k16726 => ?_)
        rcases o16725 with _ | a16728
        · have hl : lv_has ls 9 [(4, .int y15736), (2, .long y15738), (0, .ref h0), (1, .int u1)] := hl
          show W p l e ({ frames := 4, cells := 0, slots := 0, locals := 117 }) s m ([.ref h0, .int u1] : List Value).toArray below meth c _ _ 0 0 (MQ below (QT (po_X0_drawOf kp L f0 h0 u1) G cI cJ cZ cD cR cT A kp L) ([.ref h0, .int u1] : List Value).toArray s 0 0 A) (F0 m 27 ls [.null])
          refine lv_astoreN (lv' := [(5, .null), (4, .int y15736), (2, .long y15738), (0, .ref h0), (1, .int u1)]) hx hb dX0_drawOf_27 hl (by decide) rfl (fun ls hl => ?_)
          refine lv_iconst (v := 0) hx hb dX0_drawOf_29 (by decide) ?_
          refine lv_istore (lv' := [(6, .int 0), (5, .null), (4, .int y15736), (2, .long y15738), (0, .ref h0), (1, .int u1)]) hx hb dX0_drawOf_30 hl (by decide) rfl (fun ls hl => ?_)
          have L16744 : ∀ (n : Nat), ∀ (f16737 : Nat → va_E) (y16741 : Int32) (y16743 : Int64) (m16738 : oI (f16737 a15740) 0 = y15743) (m16739 : oR (f16737 a15740) 1 = a16722) (m16740 : oR (f16737 h0) 4 = a15740) (b16742 : (0 : Int) ≤ y16741.toInt ∧ y16741.toInt ≤ 0) (hm : (1 : Int) ≤ n) (H : Heap) (locs : List Loc) (ls : Array Slot), WS G cI cJ cZ cD cR cT A kp L f16737 s H locs → FM kp L ms_X0_drawOf f0 f16737 → lv_has ls 9 [(6, .int y16741), (5, .null), (4, .int y15736), (2, .long y16743), (0, .ref h0), (1, .int u1)] → W p l e ({ frames := 4, cells := 0, slots := 0, locals := 117 }) s m ([.ref h0, .int u1] : List Value).toArray below meth c H locs 0 0 (MQ below (QT (po_X0_drawOf kp L f0 h0 u1) G cI cJ cZ cD cR cT A kp L) ([.ref h0, .int u1] : List Value).toArray s 0 0 A) (F0 m 32 ls []) := by
            intro n
            induction n with
            | zero =>
              intro f16737 y16741 y16743 m16738 m16739 m16740 b16742 hm H locs ls hW hF hl
              exfalso; omega
            | succ n ih =>
              intro f16737 y16741 y16743 m16738 m16739 m16740 b16742 hm H locs ls hW hF hl
              have ih32 := ih
              refine lv_aloadN hx hb dX0_drawOf_32 (lv_at hl 1 rfl) ?_
              refine lv_ifnullN (tgt := 111) hx hb dX0_drawOf_34 (by decide) ?_
              refine q_iinc hx hb dX0_drawOf_111 hl (k := 2) rfl rfl rfl (by omega) (by decide) (fun i16745 ls h16746 hl => ?_)
              have hl : lv_has ls 9 [(4, .int i16745), (6, .int y16741), (5, .null), (2, .long y16743), (0, .ref h0), (1, .int u1)] := hl
              refine lv_goto (tgt := 5) hx hb dX0_drawOf_114 (by decide) ?_
              exact ih5 f16737 i16745 y16743 (by omega) (by omega) _ _ _ hW hF (lv_sub hl [0, 3, 4, 5] rfl)
          have hk16747 : (0 : Int32).toInt = 0 := rfl
          exact L16744 1 f15735 0 y15738 m15744 m16723 m16720 (by decide) (by omega) _ _ _ hW hF (lv_sub hl [0, 1, 2, 3, 4, 5] rfl)
        · have r16729 : RK kp L a16728 9 := k16726 _ rfl
          have hl : lv_has ls 9 [(4, .int y15736), (2, .long y15738), (0, .ref h0), (1, .int u1)] := hl
          show W p l e ({ frames := 4, cells := 0, slots := 0, locals := 117 }) s m ([.ref h0, .int u1] : List Value).toArray below meth c _ _ 0 0 (MQ below (QT (po_X0_drawOf kp L f0 h0 u1) G cI cJ cZ cD cR cT A kp L) ([.ref h0, .int u1] : List Value).toArray s 0 0 A) (F0 m 27 ls [.ref a16728])
          refine lv_astore (lv' := [(5, .ref a16728), (4, .int y15736), (2, .long y15738), (0, .ref h0), (1, .int u1)]) hx hb dX0_drawOf_27 hl (by decide) rfl (fun ls hl => ?_)
          refine lv_iconst (v := 0) hx hb dX0_drawOf_29 (by decide) ?_
          refine lv_istore (lv' := [(6, .int 0), (5, .ref a16728), (4, .int y15736), (2, .long y15738), (0, .ref h0), (1, .int u1)]) hx hb dX0_drawOf_30 hl (by decide) rfl (fun ls hl => ?_)
          have L17571 : ∀ (n : Nat), ∀ (f17564 : Nat → va_E) (y17568 : Int32) (y17570 : Int64) (m17565 : oI (f17564 a15740) 0 = y15743) (m17566 : oR (f17564 a15740) 1 = a16722) (m17567 : oR (f17564 h0) 4 = a15740) (b17569 : (0 : Int) ≤ y17568.toInt ∧ y17568.toInt ≤ 12) (hm : (13 : Int) - y17568.toInt ≤ n) (H : Heap) (locs : List Loc) (ls : Array Slot), WS G cI cJ cZ cD cR cT A kp L f17564 s H locs → FM kp L ms_X0_drawOf f0 f17564 → lv_has ls 9 [(6, .int y17568), (5, .ref a16728), (4, .int y15736), (2, .long y17570), (0, .ref h0), (1, .int u1)] → W p l e ({ frames := 4, cells := 0, slots := 0, locals := 117 }) s m ([.ref h0, .int u1] : List Value).toArray below meth c H locs 0 0 (MQ below (QT (po_X0_drawOf kp L f0 h0 u1) G cI cJ cZ cD cR cT A kp L) ([.ref h0, .int u1] : List Value).toArray s 0 0 A) (F0 m 32 ls []) := by
            intro n
            induction n with
            | zero =>
              intro f17564 y17568 y17570 m17565 m17566 m17567 b17569 hm H locs ls hW hF hl
              have hz := i32_b y17568
              exfalso; omega
            | succ n ih =>
              intro f17564 y17568 y17570 m17565 m17566 m17567 b17569 hm H locs ls hW hF hl
              have ih32 := ih
              refine lv_aload hx hb dX0_drawOf_32 (lv_at hl 1 rfl) ?_
              refine lv_ifnull hx hb dX0_drawOf_34 ?_
              refine lv_iload hx hb dX0_drawOf_37 (lv_at hl 0 rfl) ?_
              refine lv_aload hx hb dX0_drawOf_39 (lv_at hl 1 rfl) ?_
              refine fg_RX0_291 E hW r16729 dX0_drawOf_41 (fun y17572 m17573 b17574 => ?_)
              refine q_icmp_ge (tgt := 111) hx hb dX0_drawOf_44 (by decide) rfl rfl (fun c17632 => ?_) (fun c17632 => ?_)
              · refine q_iinc hx hb dX0_drawOf_111 hl (k := 2) rfl rfl rfl (by omega) (by decide) (fun i17633 ls h17634 hl => ?_)
                have hl : lv_has ls 9 [(4, .int i17633), (6, .int y17568), (5, .ref a16728), (2, .long y17570), (0, .ref h0), (1, .int u1)] := hl
                refine lv_goto (tgt := 5) hx hb dX0_drawOf_114 (by decide) ?_
                exact ih5 f17564 i17633 y17570 (by omega) (by omega) _ _ _ hW hF (lv_sub hl [0, 3, 4, 5] rfl)
              · refine lv_aload hx hb dX0_drawOf_47 (lv_at hl 1 rfl) ?_
                refine fg_RX0_296 E hW r16729 dX0_drawOf_49 (fun a17635 m17636 r17637 => ?_)
                refine lv_iload hx hb dX0_drawOf_52 (lv_at hl 0 rfl) ?_
                refine gl_643 E hW r17637 ⟨by omega, by omega⟩ dX0_drawOf_54 (fun y17638 m17639 => ?_)
                refine lv_sipush (v := 261) hx hb dX0_drawOf_55 (by decide) ?_
                have J17668 : ∀ (f17661 : Nat → va_E) (y17667 : Int64) (m17662 : oI (f17661 a15740) 0 = y15743) (m17663 : oR (f17661 a15740) 1 = a16722) (m17664 : oI (f17661 a16728) 1 = y17572) (m17665 : oR (f17661 a16728) 3 = a17635) (m17666 : oR (f17661 h0) 4 = a15740) (H : Heap) (locs : List Loc) (ls : Array Slot), WS G cI cJ cZ cD cR cT A kp L f17661 s H locs → FM kp L ms_X0_drawOf f0 f17661 → lv_has ls 9 [(6, .int y17568), (5, .ref a16728), (4, .int y15736), (2, .long y17667), (0, .ref h0), (1, .int u1)] → W p l e ({ frames := 4, cells := 0, slots := 0, locals := 117 }) s m ([.ref h0, .int u1] : List Value).toArray below meth c H locs 0 0 (MQ below (QT (po_X0_drawOf kp L f0 h0 u1) G cI cJ cZ cD cR cT A kp L) ([.ref h0, .int u1] : List Value).toArray s 0 0 A) (F0 m 105 ls []) := by
                  intro f17661 y17667 m17662 m17663 m17664 m17665 m17666 H locs ls hW hF hl
                  refine q_iinc hx hb dX0_drawOf_105 hl (k := 0) rfl rfl rfl (by omega) (by decide) (fun i17669 ls h17670 hl => ?_)
                  have hl : lv_has ls 9 [(6, .int i17669), (5, .ref a16728), (4, .int y15736), (2, .long y17667), (0, .ref h0), (1, .int u1)] := hl
                  refine lv_goto (tgt := 32) hx hb dX0_drawOf_108 (by decide) ?_
                  exact ih32 f17661 i17669 y17667 m17662 m17663 m17666 (by omega) (by omega) _ _ _ hW hF (lv_sub hl [0, 1, 2, 3, 4, 5] rfl)
                refine q_icmp_ne (Y := 261) (tgt := 105) hx hb dX0_drawOf_58 (by decide) rfl rfl (fun c17671 => ?_) (fun c17671 => ?_)
                · exact J17668 f17564 y17570 m17565 m17566 m17573 m17636 m17567 _ _ _ hW hF (lv_sub hl [0, 1, 2, 3, 4, 5] rfl)
                · refine lv_aload_n hx hb dX0_drawOf_61 rfl (lv_at hl 4 rfl) ?_
                  refine fg_RX0_42 E hW rh0 dX0_drawOf_62 (fun a17672 m17673 r17674 => ?_)
                  obtain rfl : a15740 = a17672 := (m17567).symm.trans m17673
                  refine lv_iload hx hb dX0_drawOf_65 (lv_at hl 2 rfl) ?_
                  refine lv_iload hx hb dX0_drawOf_67 (lv_at hl 0 rfl) ?_
                  refine t_callV (As := [.int y15736, .int y17568]) (rest := []) E hW (c_X2_isInForce l G cI cJ cZ cD cR cT kp L f17564 hW.2.2.2 _ a15740 y15736 y17568 r15742 (by omega) (by omega)) r15742 (by decide) rfl wk_X2_isInForce tw_716 rfl ⟨Nat.le_of_ble_eq_true rfl, Nat.le_of_ble_eq_true rfl⟩ ⟨rfl, rfl⟩ hl.1 rfl (Nat.le_of_ble_eq_true rfl) dX0_drawOf_69 ⟨Nat.le_of_ble_eq_true rfl, Nat.le_of_ble_eq_true rfl⟩ (fun v17675 f17676 H locs q17677 hW => ?_)
                  obtain ⟨⟨x17679, rfl, p17680⟩, g17678⟩ := q17677
                  have hF := FM.tr hF g17678 rfl
                  refine q_if_eq (tgt := 105) hx hb dX0_drawOf_72 (by decide) rfl (fun c17681 => ?_) (fun c17681 => ?_)
                  · exact J17668 f17676 y17570 ((fm_I g17678 r15742 rfl).trans m17565) ((fm_R g17678 r15742 rfl).trans m17566) ((fm_I g17678 r16729 rfl).trans m17573) ((fm_R g17678 r16729 rfl).trans m17636) ((fm_R g17678 rh0 rfl).trans m17673) _ _ _ hW hF (lv_sub hl [0, 1, 2, 3, 4, 5] rfl)
                  · refine lv_aload_n hx hb dX0_drawOf_75 rfl (lv_at hl 4 rfl) ?_
                    refine lv_aload hx hb dX0_drawOf_76 (lv_at hl 1 rfl) ?_
                    refine lv_iload hx hb dX0_drawOf_78 (lv_at hl 0 rfl) ?_
                    refine lv_iload_n hx hb dX0_drawOf_80 rfl (lv_at hl 5 rfl) ?_
                    refine lv_iconst (v := (-1)) hx hb dX0_drawOf_81 (by decide) ?_
                    refine t_callV (As := [.ref a16728, .int y17568, .int u1, .int (-1)]) (rest := []) E hW (c_X0_ask l G cI cJ cZ cD cR cT kp L f17676 hW.2.2.2 _ h0 a16728 y17568 u1 (-1) rh0 r16729 (by omega) (by omega) (by decide) (by rw [((fm_I g17678 r16729 rfl).trans m17573)]; omega)) rh0 (by decide) rfl wk_X0_ask tw_717 rfl ⟨Nat.le_of_ble_eq_true rfl, Nat.le_of_ble_eq_true rfl⟩ ⟨rfl, rfl⟩ hl.1 rfl (Nat.le_of_ble_eq_true rfl) dX0_drawOf_82 ⟨Nat.le_of_ble_eq_true rfl, Nat.le_of_ble_eq_true rfl⟩ (fun v17682 f17683 H locs q17684 hW => ?_)
                    obtain ⟨⟨x17686, rfl, p17687⟩, g17685⟩ := q17684
                    clear p17687
                    have hF := FM.tr hF g17685 rfl
                    refine lv_lstore (lv' := [(7, .long x17686), (6, .int y17568), (5, .ref a16728), (4, .int y15736), (2, .long y17570), (0, .ref h0), (1, .int u1)]) hx hb dX0_drawOf_85 hl (by decide) rfl (fun ls hl => ?_)
                    refine lv_lload_n hx hb dX0_drawOf_87 rfl (lv_at hl 4 rfl) ?_
                    refine lv_lload hx hb dX0_drawOf_88 (lv_at hl 0 rfl) ?_
                    refine lv_ldc2 (v := (-4000000000000000000)) hx hb hown (hts _ tw_721) dX0_drawOf_90 ?_
                    have J17689 : ∀ (y17688 : Int64) (H : Heap) (locs : List Loc) (ls : Array Slot), WS G cI cJ cZ cD cR cT A kp L f17683 s H locs → FM kp L ms_X0_drawOf f0 f17683 → lv_has ls 9 [(7, .long x17686), (6, .int y17568), (5, .ref a16728), (4, .int y15736), (2, .long y17570), (0, .ref h0), (1, .int u1)] → W p l e ({ frames := 4, cells := 0, slots := 0, locals := 117 }) s m ([.ref h0, .int u1] : List Value).toArray below meth c H locs 0 0 (MQ below (QT (po_X0_drawOf kp L f0 h0 u1) G cI cJ cZ cD cR cT A kp L) ([.ref h0, .int u1] : List Value).toArray s 0 0 A) (F0 m 103 ls [.long y17688, .long y17570]) := by
                      intro y17688 H locs ls hW hF hl
                      clear p17680 c17681
                      refine u_ladd hx hb dX0_drawOf_103 (fun x17690 => ?_)
                      refine lv_lstore_n (lv' := [(2, .long x17690), (7, .long x17686), (6, .int y17568), (5, .ref a16728), (4, .int y15736), (0, .ref h0), (1, .int u1)]) hx hb dX0_drawOf_104 rfl hl (by decide) rfl (fun ls hl => ?_)
                      exact J17668 f17683 x17690 ((fm_I g17685 r15742 rfl).trans ((fm_I g17678 r15742 rfl).trans m17565)) ((fm_R g17685 r15742 rfl).trans ((fm_R g17678 r15742 rfl).trans m17566)) ((fm_I g17685 r16729 rfl).trans ((fm_I g17678 r16729 rfl).trans m17573)) ((fm_R g17685 r16729 rfl).trans ((fm_R g17678 r16729 rfl).trans m17636)) ((fm_R g17685 rh0 rfl).trans ((fm_R g17678 rh0 rfl).trans m17673)) _ _ _ hW hF (lv_sub hl [2, 3, 4, 0, 5, 6] rfl)
                    refine q_lcmp_ne (Y := -4000000000000000000) (tgt := 101) hx hb dX0_drawOf_93 dX0_drawOf_94 (by decide) rfl rfl (fun c17691 => ?_) (fun c17691 => ?_)
                    · refine lv_lload hx hb dX0_drawOf_101 (lv_at hl 0 rfl) ?_
                      exact J17689 x17686  _ _ _ hW hF (lv_sub hl [0, 1, 2, 3, 4, 5, 6] rfl)
                    · refine lv_lconst (v := 0) hx hb dX0_drawOf_97 (by decide) ?_
                      refine lv_goto (tgt := 103) hx hb dX0_drawOf_98 (by decide) ?_
                      exact J17689 0  _ _ _ hW hF (lv_sub hl [0, 1, 2, 3, 4, 5, 6] rfl)
          have hk17692 : (0 : Int32).toInt = 0 := rfl
          exact L17571 13 f15735 0 y15738 m15744 m16723 m16720 (by decide) (by omega) _ _ _ hW hF (lv_sub hl [0, 1, 2, 3, 4, 5] rfl)
  have hk17693 : (0 : Int32).toInt = 0 := rfl
  have hk17694 : (0 : Int64).toInt = 0 := rfl
  exact L15739 21 f0 0 0 (by decide) (by omega) _ _ _ hW hF (lv_sub hl [0, 1, 2, 3] rfl)
def ms_X0_falls : List (Nat × Nat) := []
def po_X0_falls (kp : Nat → Nat) (L : List Nat) (f0 : Nat → va_E) (u1 : Int64) (u2 : Int64) (u3 : Int64) (u4 : Int32) : Option Value → (Nat → va_E) → Prop := fun v f => (∃ r : Int32, v = some (.int r) ∧ ((0 : Int) ≤ r.toInt ∧ r.toInt ≤ 1)) ∧ FM kp L ms_X0_falls f0 f
set_option maxHeartbeats 4000000 in
set_option maxRecDepth 100000 in
theorem c_X0_falls (l : Launch) (G : va_G) (cI cJ cZ cD cR cT : ClassId) (kp : Nat → Nat) (L : List Nat) (f0 : Nat → va_E) (hTH : TH cI cJ cZ cD cR cT kp L f0) (sz : Nat) (u1 : Int64) (u2 : Int64) (u3 : Int64) (u4 : Int32) (pu4 : (-29 : Int) ≤ u4.toInt ∧ u4.toInt ≤ 38) : Met l yX0_falls (Cond.code yX0_falls cX0_falls 10 (some .boolean) :: wTab) ({ frames := 1, cells := 0, slots := 0, locals := 40 }) (va_Pc [.long u1, .long u2, .long u3, .int u4] (PreW G (tys6 cI cJ cZ cD cR cT) (va_pl L f0) sz)) (QT (po_X0_falls kp L f0 u1 u2 u3 u4) G cI cJ cZ cD cR cT (va_A (va_pl L f0) sz) kp L) 0 0 (va_A (va_pl L f0) sz) := by
  refine metT (by decide) (Nat.le_of_ble_eq_true rfl) hTH ?_
  intro p e s m below meth c A ls E hW hl
  obtain ⟨hx, hb, -, hml, hown, hts, -, -, -⟩ := id E
  have hF : FM kp L ms_X0_falls f0 f0 := FM.rf
  have hl : lv_has ls 10 [(0, .long u1), (2, .long u2), (4, .long u3), (6, .int u4)] := hl
  refine lv_lload_n hx hb dX0_falls_0 rfl (lv_at hl 0 rfl) ?_
  refine lv_lstore (lv' := [(7, .long u1), (0, .long u1), (2, .long u2), (4, .long u3), (6, .int u4)]) hx hb dX0_falls_1 hl (by decide) rfl (fun ls hl => ?_)
  refine lv_iconst (v := 0) hx hb dX0_falls_3 (by decide) ?_
  refine lv_istore (lv' := [(9, .int 0), (7, .long u1), (0, .long u1), (2, .long u2), (4, .long u3), (6, .int u4)]) hx hb dX0_falls_4 hl (by decide) rfl (fun ls hl => ?_)
  have L166 : ∀ (n : Nat), ∀ (y163 : Int32) (y165 : Int64) (b164 : (0 : Int) ≤ y163.toInt ∧ y163.toInt ≤ 39) (hm : (40 : Int) - y163.toInt ≤ n) (H : Heap) (locs : List Loc) (ls : Array Slot), WS G cI cJ cZ cD cR cT A kp L f0 s H locs → FM kp L ms_X0_falls f0 f0 → lv_has ls 10 [(9, .int y163), (7, .long y165), (0, .long u1), (2, .long u2), (4, .long u3), (6, .int u4)] → W p l e ({ frames := 1, cells := 0, slots := 0, locals := 40 }) s m ([.long u1, .long u2, .long u3, .int u4] : List Value).toArray below meth c H locs 0 0 (MQ below (QT (po_X0_falls kp L f0 u1 u2 u3 u4) G cI cJ cZ cD cR cT A kp L) ([.long u1, .long u2, .long u3, .int u4] : List Value).toArray s 0 0 A) (F0 m 6 ls []) := by
    intro n
    induction n with
    | zero =>
      intro y163 y165 b164 hm H locs ls hW hF hl
      have hz := i32_b y163
      exfalso; omega
    | succ n ih =>
      intro y163 y165 b164 hm H locs ls hW hF hl
      have ih6 := ih
      refine lv_iload hx hb dX0_falls_6 (lv_at hl 0 rfl) ?_
      refine lv_iload hx hb dX0_falls_8 (lv_at hl 5 rfl) ?_
      refine q_icmp_ge (tgt := 37) hx hb dX0_falls_10 (by decide) rfl rfl (fun c167 => ?_) (fun c167 => ?_)
      · refine lv_iconst (v := 0) hx hb dX0_falls_37 (by decide) ?_
        exact e_Z E hW rfl (by decide) ⟨⟨_, rfl, (by have hk : (0 : Int32).toInt = 0 := rfl; first | decide | omega)⟩, hF⟩ dX0_falls_38
      · refine lv_lload hx hb dX0_falls_13 (lv_at hl 1 rfl) ?_
        refine lv_lload_n hx hb dX0_falls_15 rfl (lv_at hl 3 rfl) ?_
        refine lv_lload hx hb dX0_falls_16 (lv_at hl 4 rfl) ?_
        refine u_lsub hx hb dX0_falls_18 (fun x168 => ?_)
        refine u_ladd hx hb dX0_falls_19 (fun x169 => ?_)
        refine lv_lstore (lv' := [(7, .long x169), (9, .int y163), (0, .long u1), (2, .long u2), (4, .long u3), (6, .int u4)]) hx hb dX0_falls_20 hl (by decide) rfl (fun ls hl => ?_)
        refine lv_lload hx hb dX0_falls_22 (lv_at hl 0 rfl) ?_
        refine lv_lconst (v := 0) hx hb dX0_falls_24 (by decide) ?_
        refine q_lcmp_ge (Y := 0) (tgt := 31) hx hb dX0_falls_25 dX0_falls_26 (by decide) rfl rfl (fun c170 => ?_) (fun c170 => ?_)
        · refine q_iinc hx hb dX0_falls_31 hl (k := 1) rfl rfl rfl (by omega) (by decide) (fun i171 ls h172 hl => ?_)
          have hl : lv_has ls 10 [(9, .int i171), (7, .long x169), (0, .long u1), (2, .long u2), (4, .long u3), (6, .int u4)] := hl
          refine lv_goto (tgt := 6) hx hb dX0_falls_34 (by decide) ?_
          exact ih6 i171 x169 (by omega) (by omega) _ _ _ hW hF (lv_sub hl [0, 1, 2, 3, 4, 5] rfl)
        · refine lv_iconst (v := 1) hx hb dX0_falls_29 (by decide) ?_
          exact e_Z E hW rfl (by decide) ⟨⟨_, rfl, (by have hk : (1 : Int32).toInt = 1 := rfl; first | decide | omega)⟩, hF⟩ dX0_falls_30
  have hk173 : (0 : Int32).toInt = 0 := rfl
  exact L166 40 0 u1 (by decide) (by omega) _ _ _ hW hF (lv_sub hl [0, 1, 2, 3, 4, 5] rfl)
def ms_X0_takeMostSpared : List (Nat × Nat) := [(116, 0)]
def po_X0_takeMostSpared (kp : Nat → Nat) (L : List Nat) (f0 : Nat → va_E) (h0 : Nat) (u1 : Int32) : Option Value → (Nat → va_E) → Prop := fun v f => (∃ r : Int32, v = some (.int r) ∧ ((0 : Int) ≤ r.toInt)) ∧ FM kp L ms_X0_takeMostSpared f0 f
set_option maxHeartbeats 4000000 in
set_option maxRecDepth 100000 in
theorem c_X0_takeMostSpared (l : Launch) (G : va_G) (cI cJ cZ cD cR cT : ClassId) (kp : Nat → Nat) (L : List Nat) (f0 : Nat → va_E) (hTH : TH cI cJ cZ cD cR cT kp L f0) (sz : Nat) (h0 : Nat) (u1 : Int32) (rh0 : RK kp L h0 0) (pu1 : (0 : Int) ≤ u1.toInt ∧ u1.toInt ≤ 40) : Met l yX0_takeMostSpared (Cond.code yX0_takeMostSpared cX0_takeMostSpared 5 (some .int) :: wTab) ({ frames := 1, cells := 0, slots := 0, locals := 40 }) (va_Pc [.ref h0, .int u1] (PreW G (tys6 cI cJ cZ cD cR cT) (va_pl L f0) sz)) (QT (po_X0_takeMostSpared kp L f0 h0 u1) G cI cJ cZ cD cR cT (va_A (va_pl L f0) sz) kp L) 0 0 (va_A (va_pl L f0) sz) := by
  refine metT (by decide) (Nat.le_of_ble_eq_true rfl) hTH ?_
  intro p e s m below meth c A ls E hW hl
  obtain ⟨hx, hb, -, hml, hown, hts, -, -, -⟩ := id E
  have hF : FM kp L ms_X0_takeMostSpared f0 f0 := FM.rf
  have hl : lv_has ls 5 [(0, .ref h0), (1, .int u1)] := hl
  refine lv_iconst (v := 0) hx hb dX0_takeMostSpared_0 (by decide) ?_
  refine lv_istore_n (lv' := [(2, .int 0), (0, .ref h0), (1, .int u1)]) hx hb dX0_takeMostSpared_1 rfl hl (by decide) rfl (fun ls hl => ?_)
  refine lv_iconst (v := 0) hx hb dX0_takeMostSpared_2 (by decide) ?_
  refine lv_istore_n (lv' := [(3, .int 0), (2, .int 0), (0, .ref h0), (1, .int u1)]) hx hb dX0_takeMostSpared_3 rfl hl (by decide) rfl (fun ls hl => ?_)
  refine lv_iconst (v := 0) hx hb dX0_takeMostSpared_4 (by decide) ?_
  refine lv_istore (lv' := [(4, .int 0), (3, .int 0), (2, .int 0), (0, .ref h0), (1, .int u1)]) hx hb dX0_takeMostSpared_5 hl (by decide) rfl (fun ls hl => ?_)
  have L652 : ∀ (n : Nat), ∀ (y646 : Int32) (y648 : Int32) (y650 : Int32) (b647 : (0 : Int) ≤ y646.toInt ∧ y646.toInt ≤ 40) (b649 : (0 : Int) ≤ y648.toInt ∧ y648.toInt ≤ 39) (b651 : (0 : Int) ≤ y650.toInt) (hm : (41 : Int) - y646.toInt ≤ n) (H : Heap) (locs : List Loc) (ls : Array Slot), WS G cI cJ cZ cD cR cT A kp L f0 s H locs → FM kp L ms_X0_takeMostSpared f0 f0 → lv_has ls 5 [(4, .int y646), (3, .int y648), (2, .int y650), (0, .ref h0), (1, .int u1)] → W p l e ({ frames := 1, cells := 0, slots := 0, locals := 40 }) s m ([.ref h0, .int u1] : List Value).toArray below meth c H locs 0 0 (MQ below (QT (po_X0_takeMostSpared kp L f0 h0 u1) G cI cJ cZ cD cR cT A kp L) ([.ref h0, .int u1] : List Value).toArray s 0 0 A) (F0 m 7 ls []) := by
    intro n
    induction n with
    | zero =>
      intro y646 y648 y650 b647 b649 b651 hm H locs ls hW hF hl
      have hz := i32_b y646
      exfalso; omega
    | succ n ih =>
      intro y646 y648 y650 b647 b649 b651 hm H locs ls hW hF hl
      have ih7 := ih
      refine lv_iload hx hb dX0_takeMostSpared_7 (lv_at hl 0 rfl) ?_
      refine lv_iload_n hx hb dX0_takeMostSpared_9 rfl (lv_at hl 4 rfl) ?_
      refine q_icmp_ge (tgt := 41) hx hb dX0_takeMostSpared_10 (by decide) rfl rfl (fun c680 => ?_) (fun c680 => ?_)
      · refine lv_aload_n hx hb dX0_takeMostSpared_41 rfl (lv_at hl 3 rfl) ?_
        refine fg_RX0_61 E hW rh0 dX0_takeMostSpared_42 (fun a681 m682 r683 => ?_)
        refine lv_iload_n hx hb dX0_takeMostSpared_45 rfl (lv_at hl 1 rfl) ?_
        refine lv_iconst (v := 0) hx hb dX0_takeMostSpared_46 (by decide) ?_
        refine gs_116 E hW r683 ⟨by omega, by omega⟩ dX0_takeMostSpared_47 (fun f684 H locs e685 n686 g687 hW => ?_)
        have hF := FM.tr hF g687 rfl
        refine lv_iload_n hx hb dX0_takeMostSpared_48 rfl (lv_at hl 2 rfl) ?_
        exact e_I E hW rfl ⟨⟨_, rfl, (by first | omega | trivial)⟩, hF⟩ dX0_takeMostSpared_49
      · refine lv_aload_n hx hb dX0_takeMostSpared_13 rfl (lv_at hl 3 rfl) ?_
        refine fg_RX0_61 E hW rh0 dX0_takeMostSpared_14 (fun a688 m689 r690 => ?_)
        refine lv_iload hx hb dX0_takeMostSpared_17 (lv_at hl 0 rfl) ?_
        refine gl_116 E hW r690 ⟨by omega, by omega⟩ dX0_takeMostSpared_19 (fun y691 m692 => ?_)
        refine lv_iload_n hx hb dX0_takeMostSpared_20 rfl (lv_at hl 2 rfl) ?_
        have J704 : ∀ (y700 : Int32) (y702 : Int32) (b701 : (0 : Int) ≤ y700.toInt ∧ y700.toInt ≤ 39) (b703 : (0 : Int) ≤ y702.toInt) (H : Heap) (locs : List Loc) (ls : Array Slot), WS G cI cJ cZ cD cR cT A kp L f0 s H locs → FM kp L ms_X0_takeMostSpared f0 f0 → lv_has ls 5 [(4, .int y646), (3, .int y700), (2, .int y702), (0, .ref h0), (1, .int u1)] → W p l e ({ frames := 1, cells := 0, slots := 0, locals := 40 }) s m ([.ref h0, .int u1] : List Value).toArray below meth c H locs 0 0 (MQ below (QT (po_X0_takeMostSpared kp L f0 h0 u1) G cI cJ cZ cD cR cT A kp L) ([.ref h0, .int u1] : List Value).toArray s 0 0 A) (F0 m 35 ls []) := by
          intro y700 y702 b701 b703 H locs ls hW hF hl
          clear b649 b651
          refine q_iinc hx hb dX0_takeMostSpared_35 hl (k := 0) rfl rfl rfl (by omega) (by decide) (fun i705 ls h706 hl => ?_)
          have hl : lv_has ls 5 [(4, .int i705), (3, .int y700), (2, .int y702), (0, .ref h0), (1, .int u1)] := hl
          refine lv_goto (tgt := 7) hx hb dX0_takeMostSpared_38 (by decide) ?_
          exact ih7 i705 y700 y702 (by omega) (by omega) (by omega) (by omega) _ _ _ hW hF (lv_sub hl [0, 1, 2, 3, 4] rfl)
        refine q_icmp_le (tgt := 35) hx hb dX0_takeMostSpared_21 (by decide) rfl rfl (fun c707 => ?_) (fun c707 => ?_)
        · exact J704 y648 y650 (by omega) (by omega) _ _ _ hW hF (lv_sub hl [0, 1, 2, 3, 4] rfl)
        · have hb708 : y650.toInt ≤ 2147483646 := by have := i32_b y691; omega
          refine lv_aload_n hx hb dX0_takeMostSpared_24 rfl (lv_at hl 3 rfl) ?_
          refine fg_RX0_61 E hW rh0 dX0_takeMostSpared_25 (fun a709 m710 r711 => ?_)
          obtain rfl : a688 = a709 := (m689).symm.trans m710
          refine lv_iload hx hb dX0_takeMostSpared_28 (lv_at hl 0 rfl) ?_
          refine gl_116 E hW r690 ⟨by omega, by omega⟩ dX0_takeMostSpared_30 (fun y712 m713 => ?_)
          obtain rfl : y691 = y712 := (m692).symm.trans m713
          refine lv_istore_n (lv' := [(2, .int y691), (4, .int y646), (3, .int y648), (0, .ref h0), (1, .int u1)]) hx hb dX0_takeMostSpared_31 rfl hl (by decide) rfl (fun ls hl => ?_)
          refine lv_iload hx hb dX0_takeMostSpared_32 (lv_at hl 1 rfl) ?_
          refine lv_istore_n (lv' := [(3, .int y646), (2, .int y691), (4, .int y646), (0, .ref h0), (1, .int u1)]) hx hb dX0_takeMostSpared_34 rfl hl (by decide) rfl (fun ls hl => ?_)
          exact J704 y646 y691 (by omega) (by omega) _ _ _ hW hF (lv_sub hl [2, 0, 1, 3, 4] rfl)
  have hk715 : (0 : Int32).toInt = 0 := rfl
  have hk716 : (0 : Int32).toInt = 0 := rfl
  have hk717 : (0 : Int32).toInt = 0 := rfl
  exact L652 41 0 0 0 (by decide) (by decide) (by decide) (by omega) _ _ _ hW hF (lv_sub hl [0, 1, 2, 3, 4] rfl)
def ms_X0_fewestKept : List (Nat × Nat) := [(115, 0), (116, 0)]
def po_X0_fewestKept (kp : Nat → Nat) (L : List Nat) (f0 : Nat → va_E) (h0 : Nat) (u1 : Int32) (u2 : Int32) : Option Value → (Nat → va_E) → Prop := fun v f => (∃ r : Int32, v = some (.int r) ∧ ((-1 : Int) ≤ r.toInt ∧ r.toInt ≤ 40)) ∧ FM kp L ms_X0_fewestKept f0 f
set_option maxHeartbeats 4000000 in
set_option maxRecDepth 100000 in
theorem c_X0_fewestKept (l : Launch) (G : va_G) (cI cJ cZ cD cR cT : ClassId) (kp : Nat → Nat) (L : List Nat) (f0 : Nat → va_E) (hTH : TH cI cJ cZ cD cR cT kp L f0) (sz : Nat) (h0 : Nat) (u1 : Int32) (u2 : Int32) (rh0 : RK kp L h0 0) (pu1 : (0 : Int) ≤ u1.toInt ∧ u1.toInt ≤ 7) (pu2 : (-29 : Int) ≤ u2.toInt ∧ u2.toInt ≤ 38) : Met l yX0_fewestKept (Cond.code yX0_fewestKept cX0_fewestKept 7 (some .int) :: wTab) ({ frames := 5, cells := 0, slots := 0, locals := 144 }) (va_Pc [.ref h0, .int u1, .int u2] (PreW G (tys6 cI cJ cZ cD cR cT) (va_pl L f0) sz)) (QT (po_X0_fewestKept kp L f0 h0 u1 u2) G cI cJ cZ cD cR cT (va_A (va_pl L f0) sz) kp L) 0 0 (va_A (va_pl L f0) sz) := by
  refine metT (by decide) (Nat.le_of_ble_eq_true rfl) hTH ?_
  intro p e s m below meth c A ls E hW hl
  obtain ⟨hx, hb, -, hml, hown, hts, -, -, -⟩ := id E
  have hF : FM kp L ms_X0_fewestKept f0 f0 := FM.rf
  have hl : lv_has ls 7 [(0, .ref h0), (1, .int u1), (2, .int u2)] := hl
  refine lv_lconst (v := 0) hx hb dX0_fewestKept_0 (by decide) ?_
  refine lv_lstore_n (lv' := [(3, .long 0), (0, .ref h0), (1, .int u1), (2, .int u2)]) hx hb dX0_fewestKept_1 rfl hl (by decide) rfl (fun ls hl => ?_)
  refine lv_iconst (v := 0) hx hb dX0_fewestKept_2 (by decide) ?_
  refine lv_istore (lv' := [(5, .int 0), (3, .long 0), (0, .ref h0), (1, .int u1), (2, .int u2)]) hx hb dX0_fewestKept_3 hl (by decide) rfl (fun ls hl => ?_)
  refine lv_iconst (v := 0) hx hb dX0_fewestKept_5 (by decide) ?_
  refine lv_istore (lv' := [(6, .int 0), (5, .int 0), (3, .long 0), (0, .ref h0), (1, .int u1), (2, .int u2)]) hx hb dX0_fewestKept_6 hl (by decide) rfl (fun ls hl => ?_)
  have L2761 : ∀ (n : Nat), ∀ (f2754 : Nat → va_E) (y2755 : Int32) (y2757 : Int32) (y2759 : Int64) (b2756 : (0 : Int) ≤ y2755.toInt ∧ y2755.toInt ≤ 40) (b2758 : (0 : Int) ≤ y2757.toInt ∧ y2757.toInt ≤ 41) (v2760 : y2757.toInt ≤ y2755.toInt) (hm : (41 : Int) - y2755.toInt ≤ n) (H : Heap) (locs : List Loc) (ls : Array Slot), WS G cI cJ cZ cD cR cT A kp L f2754 s H locs → FM kp L ms_X0_fewestKept f0 f2754 → lv_has ls 7 [(6, .int y2755), (5, .int y2757), (3, .long y2759), (0, .ref h0), (1, .int u1), (2, .int u2)] → W p l e ({ frames := 5, cells := 0, slots := 0, locals := 144 }) s m ([.ref h0, .int u1, .int u2] : List Value).toArray below meth c H locs 0 0 (MQ below (QT (po_X0_fewestKept kp L f0 h0 u1 u2) G cI cJ cZ cD cR cT A kp L) ([.ref h0, .int u1, .int u2] : List Value).toArray s 0 0 A) (F0 m 8 ls []) := by
    intro n
    induction n with
    | zero =>
      intro f2754 y2755 y2757 y2759 b2756 b2758 v2760 hm H locs ls hW hF hl
      have hz := i32_b y2755
      exfalso; omega
    | succ n ih =>
      intro f2754 y2755 y2757 y2759 b2756 b2758 v2760 hm H locs ls hW hF hl
      have ih8 := ih
      refine lv_iload hx hb dX0_fewestKept_8 (lv_at hl 0 rfl) ?_
      refine lv_aload_n hx hb dX0_fewestKept_10 rfl (lv_at hl 3 rfl) ?_
      refine fg_RX0_21 E hW rh0 dX0_fewestKept_11 (fun a2762 m2763 r2764 => ?_)
      refine fg_RX0_171 E hW r2764 dX0_fewestKept_14 (fun y2765 m2766 b2767 => ?_)
      refine q_icmp_ge (tgt := 93) hx hb dX0_fewestKept_17 (by decide) rfl rfl (fun c2891 => ?_) (fun c2891 => ?_)
      · refine lv_iconst (v := 0) hx hb dX0_fewestKept_93 (by decide) ?_
        refine lv_istore (lv' := [(6, .int 0), (5, .int y2757), (3, .long y2759), (0, .ref h0), (1, .int u1), (2, .int u2)]) hx hb dX0_fewestKept_94 hl (by decide) rfl (fun ls hl => ?_)
        have L3898 : ∀ (n : Nat), ∀ (f3892 : Nat → va_E) (y3895 : Int32) (y3897 : Int64) (m3893 : oI (f3892 a2762) 0 = y2765) (m3894 : oR (f3892 h0) 1 = a2762) (b3896 : (0 : Int) ≤ y3895.toInt ∧ y3895.toInt ≤ 41) (hm : (42 : Int) - y3895.toInt ≤ n) (H : Heap) (locs : List Loc) (ls : Array Slot), WS G cI cJ cZ cD cR cT A kp L f3892 s H locs → FM kp L ms_X0_fewestKept f0 f3892 → lv_has ls 7 [(6, .int y3895), (5, .int y2757), (3, .long y3897), (0, .ref h0), (1, .int u1), (2, .int u2)] → W p l e ({ frames := 5, cells := 0, slots := 0, locals := 144 }) s m ([.ref h0, .int u1, .int u2] : List Value).toArray below meth c H locs 0 0 (MQ below (QT (po_X0_fewestKept kp L f0 h0 u1 u2) G cI cJ cZ cD cR cT A kp L) ([.ref h0, .int u1, .int u2] : List Value).toArray s 0 0 A) (F0 m 96 ls []) := by
          intro n
          induction n with
          | zero =>
            intro f3892 y3895 y3897 m3893 m3894 b3896 hm H locs ls hW hF hl
            have hz := i32_b y3895
            exfalso; omega
          | succ n ih =>
            intro f3892 y3895 y3897 m3893 m3894 b3896 hm H locs ls hW hF hl
            have ih96 := ih
            refine lv_iload hx hb dX0_fewestKept_96 (lv_at hl 0 rfl) ?_
            refine lv_iload hx hb dX0_fewestKept_98 (lv_at hl 1 rfl) ?_
            refine q_icmp_gt (tgt := 150) hx hb dX0_fewestKept_100 (by decide) rfl rfl (fun c3899 => ?_) (fun c3899 => ?_)
            · refine lv_iconst (v := (-1)) hx hb dX0_fewestKept_150 (by decide) ?_
              exact e_I E hW rfl ⟨⟨_, rfl, (by have hk : ((-1) : Int32).toInt = -1 := rfl; first | decide | omega)⟩, hF⟩ dX0_fewestKept_151
            · refine lv_aload_n hx hb dX0_fewestKept_103 rfl (lv_at hl 3 rfl) ?_
              refine fg_RX0_21 E hW rh0 dX0_fewestKept_104 (fun a3900 m3901 r3902 => ?_)
              obtain rfl : a2762 = a3900 := (m3894).symm.trans m3901
              refine fg_RX0_201 E hW r2764 dX0_fewestKept_107 (fun a3903 m3904 r3905 => ?_)
              refine lv_iload_n hx hb dX0_fewestKept_110 rfl (lv_at hl 4 rfl) ?_
              refine gl_169 E hW r3905 ⟨by omega, by omega⟩ dX0_fewestKept_111 (fun y3906 m3907 => ?_)
              refine q_i2l hx hb dX0_fewestKept_112 rfl (fun x3909 h3910 => ?_)
              have hb3911 : -2147483648 ≤ x3909.toInt ∧ x3909.toInt ≤ 2147483647 := by have := i32_b y3906; omega
              refine lv_lload_n hx hb dX0_fewestKept_113 rfl (lv_at hl 2 rfl) ?_
              refine lv_aload_n hx hb dX0_fewestKept_114 rfl (lv_at hl 3 rfl) ?_
              refine fg_RX0_21 E hW rh0 dX0_fewestKept_115 (fun a3912 m3913 r3914 => ?_)
              obtain rfl : a2762 = a3912 := (m3901).symm.trans m3913
              refine fg_RX0_222 E hW r2764 dX0_fewestKept_118 (fun a3915 m3916 r3917 => ?_)
              refine lv_iload_n hx hb dX0_fewestKept_121 rfl (lv_at hl 4 rfl) ?_
              refine gl_170 E hW r3917 ⟨by omega, by omega⟩ dX0_fewestKept_122 (fun y3918 m3919 => ?_)
              refine q_i2l hx hb dX0_fewestKept_123 rfl (fun x3921 h3922 => ?_)
              have hb3923 : -2147483648 ≤ x3921.toInt ∧ x3921.toInt ≤ 2147483647 := by have := i32_b y3918; omega
              refine lv_iload_n hx hb dX0_fewestKept_124 rfl (lv_at hl 5 rfl) ?_
              refine t_callS (As := [.long x3909, .long y3897, .long x3921, .int u2]) (rest := []) E hW (c_X0_falls l G cI cJ cZ cD cR cT kp L f3892 hW.2.2.2 _ x3909 y3897 x3921 u2 (by omega)) wk_X0_falls tw_1219 rfl ⟨Nat.le_of_ble_eq_true rfl, Nat.le_of_ble_eq_true rfl⟩ ⟨rfl, rfl⟩ hl.1 rfl (Nat.le_of_ble_eq_true rfl) dX0_fewestKept_125 ⟨Nat.le_of_ble_eq_true rfl, Nat.le_of_ble_eq_true rfl⟩ (fun v3924 f3925 H locs q3926 hW => ?_)
              obtain ⟨⟨x3928, rfl, p3929⟩, g3927⟩ := q3926
              have hF := FM.tr hF g3927 rfl
              refine q_if_eq (tgt := 134) hx hb dX0_fewestKept_128 (by decide) rfl (fun c3930 => ?_) (fun c3930 => ?_)
              · refine lv_lload_n hx hb dX0_fewestKept_134 rfl (lv_at hl 2 rfl) ?_
                refine lv_aload_n hx hb dX0_fewestKept_135 rfl (lv_at hl 3 rfl) ?_
                refine lv_iload hx hb dX0_fewestKept_136 (lv_at hl 1 rfl) ?_
                refine t_callV (As := [.int y2757]) (rest := [.long y3897]) E hW (c_X0_takeMostSpared l G cI cJ cZ cD cR cT kp L f3925 hW.2.2.2 _ h0 y2757 rh0 (by omega)) rh0 (by decide) rfl wk_X0_takeMostSpared tw_1222 rfl ⟨Nat.le_of_ble_eq_true rfl, Nat.le_of_ble_eq_true rfl⟩ ⟨rfl, rfl⟩ hl.1 rfl (Nat.le_of_ble_eq_true rfl) dX0_fewestKept_138 ⟨Nat.le_of_ble_eq_true rfl, Nat.le_of_ble_eq_true rfl⟩ (fun v3931 f3932 H locs q3933 hW => ?_)
                obtain ⟨⟨x3935, rfl, p3936⟩, g3934⟩ := q3933
                have hF := FM.tr hF g3934 rfl
                refine q_i2l hx hb dX0_fewestKept_141 rfl (fun x3937 h3938 => ?_)
                have hb3939 : -2147483648 ≤ x3937.toInt ∧ x3937.toInt ≤ 2147483647 := by have := i32_b x3935; omega
                refine u_lsub hx hb dX0_fewestKept_142 (fun x3940 => ?_)
                refine lv_lstore_n (lv' := [(3, .long x3940), (6, .int y3895), (5, .int y2757), (0, .ref h0), (1, .int u1), (2, .int u2)]) hx hb dX0_fewestKept_143 rfl hl (by decide) rfl (fun ls hl => ?_)
                refine q_iinc hx hb dX0_fewestKept_144 hl (k := 1) rfl rfl rfl (by omega) (by decide) (fun i3941 ls h3942 hl => ?_)
                have hl : lv_has ls 7 [(6, .int i3941), (3, .long x3940), (5, .int y2757), (0, .ref h0), (1, .int u1), (2, .int u2)] := hl
                refine lv_goto (tgt := 96) hx hb dX0_fewestKept_147 (by decide) ?_
                exact ih96 f3932 i3941 x3940 ((fm_I g3934 r2764 rfl).trans ((fm_I g3927 r2764 rfl).trans m3893)) ((fm_R g3934 rh0 rfl).trans ((fm_R g3927 rh0 rfl).trans m3913)) (by omega) (by omega) _ _ _ hW hF (lv_sub hl [0, 2, 1, 3, 4, 5] rfl)
              · refine lv_iload hx hb dX0_fewestKept_131 (lv_at hl 0 rfl) ?_
                exact e_I E hW rfl ⟨⟨_, rfl, (by first | omega | trivial)⟩, hF⟩ dX0_fewestKept_133
        have hk3943 : (0 : Int32).toInt = 0 := rfl
        exact L3898 42 f2754 0 y2759 m2766 m2763 (by decide) (by omega) _ _ _ hW hF (lv_sub hl [0, 1, 2, 3, 4, 5] rfl)
      · refine lv_aload_n hx hb dX0_fewestKept_20 rfl (lv_at hl 3 rfl) ?_
        refine fg_RX0_21 E hW rh0 dX0_fewestKept_21 (fun a3944 m3945 r3946 => ?_)
        obtain rfl : a2762 = a3944 := (m2763).symm.trans m3945
        refine fg_RX0_204 E hW r2764 dX0_fewestKept_24 (fun a3947 m3948 r3949 => ?_)
        refine lv_iload hx hb dX0_fewestKept_27 (lv_at hl 0 rfl) ?_
        refine gl_161 E hW r3949 ⟨by omega, by omega⟩ dX0_fewestKept_29 (fun y3950 m3951 b3952 => ?_)
        refine lv_iload_n hx hb dX0_fewestKept_30 rfl (lv_at hl 4 rfl) ?_
        have J4012 : ∀ (f4004 : Nat → va_E) (y4008 : Int32) (y4010 : Int64) (m4005 : oI (f4004 a2762) 0 = y2765) (m4006 : oR (f4004 a2762) 1 = a3947) (m4007 : oR (f4004 h0) 1 = a2762) (b4009 : (0 : Int) ≤ y4008.toInt ∧ y4008.toInt ≤ 41) (v4011 : y4008.toInt ≤ y2755.toInt + 1) (H : Heap) (locs : List Loc) (ls : Array Slot), WS G cI cJ cZ cD cR cT A kp L f4004 s H locs → FM kp L ms_X0_fewestKept f0 f4004 → lv_has ls 7 [(6, .int y2755), (5, .int y4008), (3, .long y4010), (0, .ref h0), (1, .int u1), (2, .int u2)] → W p l e ({ frames := 5, cells := 0, slots := 0, locals := 144 }) s m ([.ref h0, .int u1, .int u2] : List Value).toArray below meth c H locs 0 0 (MQ below (QT (po_X0_fewestKept kp L f0 h0 u1 u2) G cI cJ cZ cD cR cT A kp L) ([.ref h0, .int u1, .int u2] : List Value).toArray s 0 0 A) (F0 m 87 ls []) := by
          intro f4004 y4008 y4010 m4005 m4006 m4007 b4009 v4011 H locs ls hW hF hl
          clear b3952
          refine q_iinc hx hb dX0_fewestKept_87 hl (k := 0) rfl rfl rfl (by omega) (by decide) (fun i4013 ls h4014 hl => ?_)
          have hl : lv_has ls 7 [(6, .int i4013), (5, .int y4008), (3, .long y4010), (0, .ref h0), (1, .int u1), (2, .int u2)] := hl
          refine lv_goto (tgt := 8) hx hb dX0_fewestKept_90 (by decide) ?_
          exact ih8 f4004 i4013 y4008 y4010 (by omega) (by omega) (by omega) (by omega) _ _ _ hW hF (lv_sub hl [0, 1, 2, 3, 4, 5] rfl)
        refine q_icmp_ne (tgt := 87) hx hb dX0_fewestKept_31 (by decide) rfl rfl (fun c4015 => ?_) (fun c4015 => ?_)
        · exact J4012 f2754 y2757 y2759 m2766 m3948 m3945 (by omega) (by omega) _ _ _ hW hF (lv_sub hl [0, 1, 2, 3, 4, 5] rfl)
        · refine lv_aload_n hx hb dX0_fewestKept_34 rfl (lv_at hl 3 rfl) ?_
          refine fg_RX0_21 E hW rh0 dX0_fewestKept_35 (fun a4016 m4017 r4018 => ?_)
          obtain rfl : a2762 = a4016 := (m3945).symm.trans m4017
          refine fg_RX0_124 E hW r2764 dX0_fewestKept_38 (fun a4019 m4020 r4021 => ?_)
          refine lv_iload hx hb dX0_fewestKept_41 (lv_at hl 0 rfl) ?_
          refine gl_164 E hW r4021 ⟨by omega, by omega⟩ dX0_fewestKept_43 (fun y4022 m4023 b4024 => ?_)
          refine lv_iconst (v := (-1)) hx hb dX0_fewestKept_44 (by decide) ?_
          refine q_icmp_eq (Y := -1) (tgt := 87) hx hb dX0_fewestKept_45 (by decide) rfl rfl (fun c4025 => ?_) (fun c4025 => ?_)
          · exact J4012 f2754 y2757 y2759 m2766 m3948 m4017 (by omega) (by omega) _ _ _ hW hF (lv_sub hl [0, 1, 2, 3, 4, 5] rfl)
          · refine lv_lload_n hx hb dX0_fewestKept_48 rfl (lv_at hl 2 rfl) ?_
            refine lv_aload_n hx hb dX0_fewestKept_49 rfl (lv_at hl 3 rfl) ?_
            refine fg_RX0_21 E hW rh0 dX0_fewestKept_50 (fun a4026 m4027 r4028 => ?_)
            obtain rfl : a2762 = a4026 := (m4017).symm.trans m4027
            refine lv_iload hx hb dX0_fewestKept_53 (lv_at hl 0 rfl) ?_
            refine t_callV (As := [.int y2755]) (rest := [.long y2759]) E hW (c_X1_rentOf l G cI cJ cZ cD cR cT kp L f2754 hW.2.2.2 _ a2762 y2755 r2764 (by omega)) r2764 (by decide) rfl wk_X1_rentOf tw_709 rfl ⟨Nat.le_of_ble_eq_true rfl, Nat.le_of_ble_eq_true rfl⟩ ⟨rfl, rfl⟩ hl.1 rfl (Nat.le_of_ble_eq_true rfl) dX0_fewestKept_55 ⟨Nat.le_of_ble_eq_true rfl, Nat.le_of_ble_eq_true rfl⟩ (fun v4029 f4030 H locs q4031 hW => ?_)
            obtain ⟨⟨x4033, rfl, p4034⟩, g4032⟩ := q4031
            have hF := FM.tr hF g4032 rfl
            refine q_i2l hx hb dX0_fewestKept_58 rfl (fun x4035 h4036 => ?_)
            have hb4037 : -2147483648 ≤ x4035.toInt ∧ x4035.toInt ≤ 2147483647 := by have := i32_b x4033; omega
            refine u_ladd hx hb dX0_fewestKept_59 (fun x4038 => ?_)
            refine lv_lstore_n (lv' := [(3, .long x4038), (6, .int y2755), (5, .int y2757), (0, .ref h0), (1, .int u1), (2, .int u2)]) hx hb dX0_fewestKept_60 rfl hl (by decide) rfl (fun ls hl => ?_)
            refine lv_aload_n hx hb dX0_fewestKept_61 rfl (lv_at hl 3 rfl) ?_
            refine fg_RX0_61 E hW rh0 dX0_fewestKept_62 (fun a4039 m4040 r4041 => ?_)
            refine lv_iload hx hb dX0_fewestKept_65 (lv_at hl 2 rfl) ?_
            refine lv_aload_n hx hb dX0_fewestKept_67 rfl (lv_at hl 3 rfl) ?_
            refine fg_RX0_21 E hW rh0 dX0_fewestKept_68 (fun a4042 m4043 r4044 => ?_)
            obtain rfl : a2762 = a4042 := (((fm_R g4032 rh0 rfl).trans m4027)).symm.trans m4043
            refine lv_iload hx hb dX0_fewestKept_71 (lv_at hl 1 rfl) ?_
            refine t_callV (As := [.int y2755]) (rest := [.int y2757, .ref a4039]) E hW (c_X1_rentOf l G cI cJ cZ cD cR cT kp L f4030 hW.2.2.2 _ a2762 y2755 r2764 (by omega)) r2764 (by decide) rfl wk_X1_rentOf tw_709 rfl ⟨Nat.le_of_ble_eq_true rfl, Nat.le_of_ble_eq_true rfl⟩ ⟨rfl, rfl⟩ hl.1 rfl (Nat.le_of_ble_eq_true rfl) dX0_fewestKept_73 ⟨Nat.le_of_ble_eq_true rfl, Nat.le_of_ble_eq_true rfl⟩ (fun v4045 f4046 H locs q4047 hW => ?_)
            obtain ⟨⟨x4049, rfl, p4050⟩, g4048⟩ := q4047
            have hF := FM.tr hF g4048 rfl
            refine lv_aload_n hx hb dX0_fewestKept_76 rfl (lv_at hl 3 rfl) ?_
            refine lv_iload hx hb dX0_fewestKept_77 (lv_at hl 1 rfl) ?_
            refine t_callV (As := [.int y2755]) (rest := [.int x4049, .int y2757, .ref a4039]) E hW (c_X0_fairOf l G cI cJ cZ cD cR cT kp L f4046 hW.2.2.2 _ h0 y2755 rh0 (by omega)) rh0 (by decide) rfl wk_X0_fairOf tw_1128 rfl ⟨Nat.le_of_ble_eq_true rfl, Nat.le_of_ble_eq_true rfl⟩ ⟨rfl, rfl⟩ hl.1 rfl (Nat.le_of_ble_eq_true rfl) dX0_fewestKept_79 ⟨Nat.le_of_ble_eq_true rfl, Nat.le_of_ble_eq_true rfl⟩ (fun v4051 f4052 H locs q4053 hW => ?_)
            obtain ⟨⟨x4055, rfl, p4056⟩, g4054⟩ := q4053
            have hF := FM.tr hF g4054 rfl
            have hb4059 : -2147483648 ≤ x4049.toInt ∧ x4049.toInt ≤ 2147483647 := i32_b x4049
            have hb4060 : -2147483648 ≤ x4055.toInt ∧ x4055.toInt ≤ 2147483647 := i32_b x4055
            refine q_isub hx hb dX0_fewestKept_82 rfl rfl (by omega) (fun x4057 h4058 => ?_)
            refine gs_116 E hW r4041 ⟨by omega, by omega⟩ dX0_fewestKept_83 (fun f4061 H locs e4062 n4063 g4064 hW => ?_)
            have hF := FM.tr hF g4064 rfl
            refine q_iinc hx hb dX0_fewestKept_84 hl (k := 2) rfl rfl rfl (by omega) (by decide) (fun i4065 ls h4066 hl => ?_)
            have hl : lv_has ls 7 [(5, .int i4065), (3, .long x4038), (6, .int y2755), (0, .ref h0), (1, .int u1), (2, .int u2)] := hl
            exact J4012 f4061 i4065 x4038 ((fm_I g4064 r2764 rfl).trans ((fm_I g4054 r2764 rfl).trans ((fm_I g4048 r2764 rfl).trans ((fm_I g4032 r2764 rfl).trans m2766)))) ((fm_R g4064 r2764 rfl).trans ((fm_R g4054 r2764 rfl).trans ((fm_R g4048 r2764 rfl).trans ((fm_R g4032 r2764 rfl).trans m3948)))) ((fm_R g4064 rh0 rfl).trans ((fm_R g4054 rh0 rfl).trans ((fm_R g4048 rh0 rfl).trans m4043))) (by omega) (by omega) _ _ _ hW hF (lv_sub hl [2, 0, 1, 3, 4, 5] rfl)
  have hk4067 : (0 : Int32).toInt = 0 := rfl
  have hk4068 : (0 : Int32).toInt = 0 := rfl
  have hk4069 : (0 : Int64).toInt = 0 := rfl
  exact L2761 41 f0 0 0 0 (by decide) (by decide) (by omega) (by omega) _ _ _ hW hF (lv_sub hl [0, 1, 2, 3, 4, 5] rfl)
def ms_X0_keepsFor : List (Nat × Nat) := [(115, 0)]
def po_X0_keepsFor (kp : Nat → Nat) (L : List Nat) (f0 : Nat → va_E) (h0 : Nat) (u1 : Int32) (u2 : Int32) : Option Value → (Nat → va_E) → Prop := fun v f => (∃ r : Int32, v = some (.int r) ∧ ((0 : Int) ≤ r.toInt ∧ r.toInt ≤ 1)) ∧ FM kp L ms_X0_keepsFor f0 f
set_option maxHeartbeats 4000000 in
set_option maxRecDepth 100000 in
theorem c_X0_keepsFor (l : Launch) (G : va_G) (cI cJ cZ cD cR cT : ClassId) (kp : Nat → Nat) (L : List Nat) (f0 : Nat → va_E) (hTH : TH cI cJ cZ cD cR cT kp L f0) (sz : Nat) (h0 : Nat) (u1 : Int32) (u2 : Int32) (rh0 : RK kp L h0 0) (pu1 : (-1 : Int) ≤ u1.toInt ∧ u1.toInt ≤ 39) (pu2 : (0 : Int) ≤ u2.toInt ∧ u2.toInt ≤ 39) : Met l yX0_keepsFor (Cond.code yX0_keepsFor cX0_keepsFor 3 (some .boolean) :: wTab) ({ frames := 5, cells := 0, slots := 0, locals := 143 }) (va_Pc [.ref h0, .int u1, .int u2] (PreW G (tys6 cI cJ cZ cD cR cT) (va_pl L f0) sz)) (QT (po_X0_keepsFor kp L f0 h0 u1 u2) G cI cJ cZ cD cR cT (va_A (va_pl L f0) sz) kp L) 0 0 (va_A (va_pl L f0) sz) := by
  refine metT (by decide) (Nat.le_of_ble_eq_true rfl) hTH ?_
  intro p e s m below meth c A ls E hW hl
  obtain ⟨hx, hb, -, hml, hown, hts, -, -, -⟩ := id E
  have hF : FM kp L ms_X0_keepsFor f0 f0 := FM.rf
  have hl : lv_has ls 3 [(0, .ref h0), (1, .int u1), (2, .int u2)] := hl
  refine lv_iload_n hx hb dX0_keepsFor_0 rfl (lv_at hl 1 rfl) ?_
  refine lv_iconst (v := (-1)) hx hb dX0_keepsFor_1 (by decide) ?_
  have J11 : ∀ (f8 : Nat → va_E) (y9 : Int32) (b10 : (0 : Int) ≤ y9.toInt ∧ y9.toInt ≤ 1) (H : Heap) (locs : List Loc) (ls : Array Slot), WS G cI cJ cZ cD cR cT A kp L f8 s H locs → FM kp L ms_X0_keepsFor f0 f8 → lv_has ls 3 [(0, .ref h0), (1, .int u1), (2, .int u2)] → W p l e ({ frames := 5, cells := 0, slots := 0, locals := 143 }) s m ([.ref h0, .int u1, .int u2] : List Value).toArray below meth c H locs 0 0 (MQ below (QT (po_X0_keepsFor kp L f0 h0 u1 u2) G cI cJ cZ cD cR cT A kp L) ([.ref h0, .int u1, .int u2] : List Value).toArray s 0 0 A) (F0 m 22 ls [.int y9]) := by
    intro f8 y9 b10 H locs ls hW hF hl
    exact e_Z E hW rfl (by omega) ⟨⟨_, rfl, (by first | omega | trivial)⟩, hF⟩ dX0_keepsFor_22
  refine q_icmp_eq (Y := -1) (tgt := 21) hx hb dX0_keepsFor_2 (by decide) rfl rfl (fun c12 => ?_) (fun c12 => ?_)
  · refine lv_iconst (v := 0) hx hb dX0_keepsFor_21 (by decide) ?_
    exact J11 f0 0 (by decide) _ _ _ hW hF (lv_sub hl [0, 1, 2] rfl)
  · refine lv_aload_n hx hb dX0_keepsFor_5 rfl (lv_at hl 0 rfl) ?_
    refine lv_sipush (v := 262) hx hb dX0_keepsFor_6 (by decide) ?_
    refine lv_iload_n hx hb dX0_keepsFor_9 rfl (lv_at hl 1 rfl) ?_
    refine lv_iload_n hx hb dX0_keepsFor_10 rfl (lv_at hl 2 rfl) ?_
    refine t_callV (As := [.int 262, .int u1, .int u2]) (rest := []) E hW (c_X0_anyHolds l G cI cJ cZ cD cR cT kp L f0 hW.2.2.2 _ h0 262 u1 u2 rh0 (by decide) (by omega) (by omega)) rh0 (by decide) rfl wk_X0_anyHolds tw_752 rfl ⟨Nat.le_of_ble_eq_true rfl, Nat.le_of_ble_eq_true rfl⟩ ⟨rfl, rfl⟩ hl.1 rfl (Nat.le_of_ble_eq_true rfl) dX0_keepsFor_11 ⟨Nat.le_of_ble_eq_true rfl, Nat.le_of_ble_eq_true rfl⟩ (fun v13 f14 H locs q15 hW => ?_)
    obtain ⟨⟨x17, rfl, p18⟩, g16⟩ := q15
    have p18 : (0 : Int) ≤ x17.toInt ∧ x17.toInt ≤ 1 := p18
    have hF := FM.tr hF g16 rfl
    refine q_if_eq (tgt := 21) hx hb dX0_keepsFor_14 (by decide) rfl (fun c19 => ?_) (fun c19 => ?_)
    · refine lv_iconst (v := 0) hx hb dX0_keepsFor_21 (by decide) ?_
      exact J11 f14 0 (by decide) _ _ _ hW hF (lv_sub hl [0, 1, 2] rfl)
    · refine lv_iconst (v := 1) hx hb dX0_keepsFor_17 (by decide) ?_
      refine lv_goto (tgt := 22) hx hb dX0_keepsFor_18 (by decide) ?_
      exact J11 f14 1 (by decide) _ _ _ hW hF (lv_sub hl [0, 1, 2] rfl)
def ms_X0_lookAtNow : List (Nat × Nat) := [(0, 14), (222, 0), (223, 0)]
def po_X0_lookAtNow (kp : Nat → Nat) (L : List Nat) (f0 : Nat → va_E) (h0 : Nat) : Option Value → (Nat → va_E) → Prop := fun v f => v = none ∧ FM kp L ms_X0_lookAtNow f0 f
set_option maxHeartbeats 4000000 in
set_option maxRecDepth 100000 in
theorem c_X0_lookAtNow (l : Launch) (G : va_G) (cI cJ cZ cD cR cT : ClassId) (kp : Nat → Nat) (L : List Nat) (f0 : Nat → va_E) (hTH : TH cI cJ cZ cD cR cT kp L f0) (sz : Nat) (h0 : Nat) (rh0 : RK kp L h0 0) : Met l yX0_lookAtNow (Cond.code yX0_lookAtNow cX0_lookAtNow 1 none :: wTab) ({ frames := 3, cells := 0, slots := 0, locals := 88 }) (va_Pc [.ref h0] (PreW G (tys6 cI cJ cZ cD cR cT) (va_pl L f0) sz)) (QT (po_X0_lookAtNow kp L f0 h0) G cI cJ cZ cD cR cT (va_A (va_pl L f0) sz) kp L) 0 0 (va_A (va_pl L f0) sz) := by
  refine metT (by decide) (Nat.le_of_ble_eq_true rfl) hTH ?_
  intro p e s m below meth c A ls E hW hl
  obtain ⟨hx, hb, -, hml, hown, hts, -, -, -⟩ := id E
  have hF : FM kp L ms_X0_lookAtNow f0 f0 := FM.rf
  have hl : lv_has ls 1 [(0, .ref h0)] := hl
  refine lv_aload_n hx hb dX0_lookAtNow_0 rfl (lv_at hl 0 rfl) ?_
  refine fg_RX0_42 E hW rh0 dX0_lookAtNow_1 (fun a1 m2 r3 => ?_)
  refine lv_aload_n hx hb dX0_lookAtNow_4 rfl (lv_at hl 0 rfl) ?_
  refine fg_RX0_93 E hW rh0 dX0_lookAtNow_5 (fun y4 m5 b6 => ?_)
  refine t_callV (As := [.int y4]) (rest := []) E hW (c_X2_mark l G cI cJ cZ cD cR cT kp L f0 hW.2.2.2 _ a1 y4 r3 (by omega)) r3 (by decide) rfl wk_X2_mark tw_691 rfl ⟨Nat.le_of_ble_eq_true rfl, Nat.le_of_ble_eq_true rfl⟩ ⟨rfl, rfl⟩ hl.1 rfl (Nat.le_of_ble_eq_true rfl) dX0_lookAtNow_8 ⟨Nat.le_of_ble_eq_true rfl, Nat.le_of_ble_eq_true rfl⟩ (fun v7 f8 H locs q9 hW => ?_)
  obtain ⟨rfl, g10⟩ := q9
  have hF := FM.tr hF g10 rfl
  refine lv_aload_n hx hb dX0_lookAtNow_11 rfl (lv_at hl 0 rfl) ?_
  refine lv_aload_n hx hb dX0_lookAtNow_12 rfl (lv_at hl 0 rfl) ?_
  refine fg_RX0_97 E hW rh0 dX0_lookAtNow_13 (fun y11 m12 b13 => ?_)
  have J34 : ∀ (f29 : Nat → va_E) (y33 : Int32) (m30 : oR (f29 h0) 4 = a1) (m31 : oI (f29 h0) 6 = y4) (m32 : oI (f29 h0) 9 = y11) (H : Heap) (locs : List Loc) (ls : Array Slot), WS G cI cJ cZ cD cR cT A kp L f29 s H locs → FM kp L ms_X0_lookAtNow f0 f29 → lv_has ls 1 [(0, .ref h0)] → W p l e ({ frames := 3, cells := 0, slots := 0, locals := 88 }) s m ([.ref h0] : List Value).toArray below meth c H locs 0 0 (MQ below (QT (po_X0_lookAtNow kp L f0 h0) G cI cJ cZ cD cR cT A kp L) ([.ref h0] : List Value).toArray s 0 0 A) (F0 m 37 ls [.int y33, .ref h0]) := by
    intro f29 y33 m30 m31 m32 H locs ls hW hF hl
    refine fp_RX0_121 E hW rh0 dX0_lookAtNow_37 (fun f35 H locs e36 n37 g38 hW => ?_)
    have hF := FM.tr hF g38 rfl
    exact e_V E hW rfl ⟨rfl, hF⟩ dX0_lookAtNow_40
  refine q_if_eq (tgt := 26) hx hb dX0_lookAtNow_16 (by decide) rfl (fun c39 => ?_) (fun c39 => ?_)
  · refine lv_aload_n hx hb dX0_lookAtNow_26 rfl (lv_at hl 0 rfl) ?_
    refine fg_RX0_35 E hW rh0 dX0_lookAtNow_27 (fun a40 m41 r42 => ?_)
    refine lv_aload_n hx hb dX0_lookAtNow_30 rfl (lv_at hl 0 rfl) ?_
    refine fg_RX0_93 E hW rh0 dX0_lookAtNow_31 (fun y43 m44 b45 => ?_)
    obtain rfl : y4 = y43 := (((fm_I g10 rh0 rfl).trans m5)).symm.trans m44
    refine t_callV (As := [.int y4]) (rest := [.ref h0]) E hW (c_X7_priceIn l G cI cJ cZ cD cR cT kp L f8 hW.2.2.2 _ a40 y4 r42 (by omega)) r42 (by decide) rfl wk_X7_priceIn tw_700 rfl ⟨Nat.le_of_ble_eq_true rfl, Nat.le_of_ble_eq_true rfl⟩ ⟨rfl, rfl⟩ hl.1 rfl (Nat.le_of_ble_eq_true rfl) dX0_lookAtNow_34 ⟨Nat.le_of_ble_eq_true rfl, Nat.le_of_ble_eq_true rfl⟩ (fun v46 f47 H locs q48 hW => ?_)
    obtain ⟨⟨x50, rfl, p51⟩, g49⟩ := q48
    clear p51
    have hF := FM.tr hF g49 rfl
    exact J34 f47 x50 ((fm_R g49 rh0 rfl).trans ((fm_R g10 rh0 rfl).trans m2)) ((fm_I g49 rh0 rfl).trans m44) ((fm_I g49 rh0 rfl).trans m12) _ _ _ hW hF (lv_sub hl [0] rfl)
  · refine lv_aload_n hx hb dX0_lookAtNow_19 rfl (lv_at hl 0 rfl) ?_
    refine fg_RX0_107 E hW rh0 dX0_lookAtNow_20 (fun y52 m53 => ?_)
    refine lv_goto (tgt := 37) hx hb dX0_lookAtNow_23 (by decide) ?_
    exact J34 f8 y52 ((fm_R g10 rh0 rfl).trans m2) ((fm_I g10 rh0 rfl).trans m5) m12 _ _ _ hW hF (lv_sub hl [0] rfl)
def ms_X0_reap : List (Nat × Nat) := [(345, 0)]
def po_X0_reap (kp : Nat → Nat) (L : List Nat) (f0 : Nat → va_E) (h0 : Nat) : Option Value → (Nat → va_E) → Prop := fun v f => v = none ∧ FM kp L ms_X0_reap f0 f
set_option maxHeartbeats 4000000 in
set_option maxRecDepth 100000 in
theorem c_X0_reap (l : Launch) (G : va_G) (cI cJ cZ cD cR cT : ClassId) (kp : Nat → Nat) (L : List Nat) (f0 : Nat → va_E) (hTH : TH cI cJ cZ cD cR cT kp L f0) (sz : Nat) (h0 : Nat) (rh0 : RK kp L h0 0) : Met l yX0_reap (Cond.code yX0_reap cX0_reap 5 none :: wTab) ({ frames := 2, cells := 0, slots := 0, locals := 63 }) (va_Pc [.ref h0] (PreW G (tys6 cI cJ cZ cD cR cT) (va_pl L f0) sz)) (QT (po_X0_reap kp L f0 h0) G cI cJ cZ cD cR cT (va_A (va_pl L f0) sz) kp L) 0 0 (va_A (va_pl L f0) sz) := by
  refine metT (by decide) (Nat.le_of_ble_eq_true rfl) hTH ?_
  intro p e s m below meth c A ls E hW hl
  obtain ⟨hx, hb, -, hml, hown, hts, -, -, -⟩ := id E
  have hF : FM kp L ms_X0_reap f0 f0 := FM.rf
  have hl : lv_has ls 5 [(0, .ref h0)] := hl
  refine lv_aload_n hx hb dX0_reap_0 rfl (lv_at hl 0 rfl) ?_
  refine fg_RX0_97 E hW rh0 dX0_reap_1 (fun y1 m2 b3 => ?_)
  have J26 : ∀ (y24 : Int32) (b25 : (0 : Int) ≤ y24.toInt ∧ y24.toInt ≤ 1) (H : Heap) (locs : List Loc) (ls : Array Slot), WS G cI cJ cZ cD cR cT A kp L f0 s H locs → FM kp L ms_X0_reap f0 f0 → lv_has ls 5 [(0, .ref h0)] → W p l e ({ frames := 2, cells := 0, slots := 0, locals := 63 }) s m ([.ref h0] : List Value).toArray below meth c H locs 0 0 (MQ below (QT (po_X0_reap kp L f0 h0) G cI cJ cZ cD cR cT A kp L) ([.ref h0] : List Value).toArray s 0 0 A) (F0 m 45 ls [.int y24]) := by
    intro y24 b25 H locs ls hW hF hl
    refine lv_istore_n (lv' := [(1, .int y24), (0, .ref h0)]) hx hb dX0_reap_45 rfl hl (by decide) rfl (fun ls hl => ?_)
    refine lv_iconst (v := 0) hx hb dX0_reap_46 (by decide) ?_
    refine lv_istore_n (lv' := [(2, .int 0), (1, .int y24), (0, .ref h0)]) hx hb dX0_reap_47 rfl hl (by decide) rfl (fun ls hl => ?_)
    have L2368 : ∀ (n : Nat), ∀ (f2364 : Nat → va_E) (y2366 : Int32) (m2365 : oI (f2364 h0) 9 = y1) (b2367 : (0 : Int) ≤ y2366.toInt ∧ y2366.toInt ≤ 40) (hm : (41 : Int) - y2366.toInt ≤ n) (H : Heap) (locs : List Loc) (ls : Array Slot), WS G cI cJ cZ cD cR cT A kp L f2364 s H locs → FM kp L ms_X0_reap f0 f2364 → lv_has ls 5 [(2, .int y2366), (1, .int y24), (0, .ref h0)] → W p l e ({ frames := 2, cells := 0, slots := 0, locals := 63 }) s m ([.ref h0] : List Value).toArray below meth c H locs 0 0 (MQ below (QT (po_X0_reap kp L f0 h0) G cI cJ cZ cD cR cT A kp L) ([.ref h0] : List Value).toArray s 0 0 A) (F0 m 48 ls []) := by
      intro n
      induction n with
      | zero =>
        intro f2364 y2366 m2365 b2367 hm H locs ls hW hF hl
        have hz := i32_b y2366
        exfalso; omega
      | succ n ih =>
        intro f2364 y2366 m2365 b2367 hm H locs ls hW hF hl
        have ih48 := ih
        refine lv_iload_n hx hb dX0_reap_48 rfl (lv_at hl 1 rfl) ?_
        have J2487 : ∀ (H : Heap) (locs : List Loc) (ls : Array Slot), WS G cI cJ cZ cD cR cT A kp L f2364 s H locs → FM kp L ms_X0_reap f0 f2364 → lv_has ls 5 [(2, .int y2366), (1, .int y24), (0, .ref h0)] → W p l e ({ frames := 2, cells := 0, slots := 0, locals := 63 }) s m ([.ref h0] : List Value).toArray below meth c H locs 0 0 (MQ below (QT (po_X0_reap kp L f0 h0) G cI cJ cZ cD cR cT A kp L) ([.ref h0] : List Value).toArray s 0 0 A) (F0 m 145 ls []) := by
          intro  H locs ls hW hF hl
          exact e_V E hW rfl ⟨rfl, hF⟩ dX0_reap_145
        refine q_if_eq (tgt := 145) hx hb dX0_reap_49 (by decide) rfl (fun c2488 => ?_) (fun c2488 => ?_)
        · exact J2487   _ _ _ hW hF (lv_sub hl [0, 1, 2] rfl)
        · refine lv_iload_n hx hb dX0_reap_52 rfl (lv_at hl 0 rfl) ?_
          refine lv_aload_n hx hb dX0_reap_53 rfl (lv_at hl 2 rfl) ?_
          refine fg_RX0_21 E hW rh0 dX0_reap_54 (fun a2489 m2490 r2491 => ?_)
          refine fg_RX0_171 E hW r2491 dX0_reap_57 (fun y2492 m2493 b2494 => ?_)
          refine q_icmp_ge (tgt := 145) hx hb dX0_reap_60 (by decide) rfl rfl (fun c2495 => ?_) (fun c2495 => ?_)
          · exact J2487   _ _ _ hW hF (lv_sub hl [0, 1, 2] rfl)
          · refine lv_aload_n hx hb dX0_reap_63 rfl (lv_at hl 2 rfl) ?_
            refine fg_RX0_21 E hW rh0 dX0_reap_64 (fun a2496 m2497 r2498 => ?_)
            obtain rfl : a2489 = a2496 := (m2490).symm.trans m2497
            refine fg_RX0_124 E hW r2491 dX0_reap_67 (fun a2499 m2500 r2501 => ?_)
            refine lv_iload_n hx hb dX0_reap_70 rfl (lv_at hl 0 rfl) ?_
            refine gl_164 E hW r2501 ⟨by omega, by omega⟩ dX0_reap_71 (fun y2502 m2503 b2504 => ?_)
            refine lv_istore_n (lv' := [(3, .int y2502), (2, .int y2366), (1, .int y24), (0, .ref h0)]) hx hb dX0_reap_72 rfl hl (by decide) rfl (fun ls hl => ?_)
            refine lv_aload_n hx hb dX0_reap_73 rfl (lv_at hl 3 rfl) ?_
            refine fg_RX0_97 E hW rh0 dX0_reap_74 (fun y2505 m2506 b2507 => ?_)
            obtain rfl : y1 = y2505 := (m2365).symm.trans m2506
            have J2540 : ∀ (f2534 : Nat → va_E) (y2539 : Int32) (m2535 : oI (f2534 a2489) 0 = y2492) (m2536 : oR (f2534 a2489) 4 = a2499) (m2537 : oR (f2534 h0) 1 = a2489) (m2538 : oI (f2534 h0) 9 = y1) (H : Heap) (locs : List Loc) (ls : Array Slot), WS G cI cJ cZ cD cR cT A kp L f2534 s H locs → FM kp L ms_X0_reap f0 f2534 → lv_has ls 5 [(3, .int y2502), (2, .int y2366), (1, .int y24), (0, .ref h0)] → W p l e ({ frames := 2, cells := 0, slots := 0, locals := 63 }) s m ([.ref h0] : List Value).toArray below meth c H locs 0 0 (MQ below (QT (po_X0_reap kp L f0 h0) G cI cJ cZ cD cR cT A kp L) ([.ref h0] : List Value).toArray s 0 0 A) (F0 m 112 ls [.int y2539]) := by
              intro f2534 y2539 m2535 m2536 m2537 m2538 H locs ls hW hF hl
              refine lv_istore (lv' := [(4, .int y2539), (3, .int y2502), (2, .int y2366), (1, .int y24), (0, .ref h0)]) hx hb dX0_reap_112 hl (by decide) rfl (fun ls hl => ?_)
              refine lv_iload_n hx hb dX0_reap_114 rfl (lv_at hl 1 rfl) ?_
              refine lv_iconst (v := (-1)) hx hb dX0_reap_115 (by decide) ?_
              have J2561 : ∀ (f2556 : Nat → va_E) (m2557 : oI (f2556 a2489) 0 = y2492) (m2558 : oR (f2556 a2489) 4 = a2499) (m2559 : oR (f2556 h0) 1 = a2489) (m2560 : oI (f2556 h0) 9 = y1) (H : Heap) (locs : List Loc) (ls : Array Slot), WS G cI cJ cZ cD cR cT A kp L f2556 s H locs → FM kp L ms_X0_reap f0 f2556 → lv_has ls 5 [(4, .int y2539), (3, .int y2502), (2, .int y2366), (1, .int y24), (0, .ref h0)] → W p l e ({ frames := 2, cells := 0, slots := 0, locals := 63 }) s m ([.ref h0] : List Value).toArray below meth c H locs 0 0 (MQ below (QT (po_X0_reap kp L f0 h0) G cI cJ cZ cD cR cT A kp L) ([.ref h0] : List Value).toArray s 0 0 A) (F0 m 139 ls []) := by
                intro f2556 m2557 m2558 m2559 m2560 H locs ls hW hF hl
                refine q_iinc hx hb dX0_reap_139 hl (k := 2) rfl rfl rfl (by omega) (by decide) (fun i2562 ls h2563 hl => ?_)
                have hl : lv_has ls 5 [(2, .int i2562), (4, .int y2539), (3, .int y2502), (1, .int y24), (0, .ref h0)] := hl
                refine lv_goto (tgt := 48) hx hb dX0_reap_142 (by decide) ?_
                exact ih48 f2556 i2562 m2560 (by omega) (by omega) _ _ _ hW hF (lv_sub hl [0, 3, 4] rfl)
              refine q_icmp_eq (Y := -1) (tgt := 139) hx hb dX0_reap_116 (by decide) rfl rfl (fun c2564 => ?_) (fun c2564 => ?_)
              · exact J2561 f2534 m2535 m2536 m2537 m2538 _ _ _ hW hF (lv_sub hl [0, 1, 2, 3, 4] rfl)
              · refine lv_iload hx hb dX0_reap_119 (lv_at hl 0 rfl) ?_
                refine lv_iconst (v := (-1)) hx hb dX0_reap_121 (by decide) ?_
                refine q_icmp_eq (Y := -1) (tgt := 139) hx hb dX0_reap_122 (by decide) rfl rfl (fun c2565 => ?_) (fun c2565 => ?_)
                · exact J2561 f2534 m2535 m2536 m2537 m2538 _ _ _ hW hF (lv_sub hl [0, 1, 2, 3, 4] rfl)
                · refine lv_aload_n hx hb dX0_reap_125 rfl (lv_at hl 4 rfl) ?_
                  refine fg_RX0_12 E hW rh0 dX0_reap_126 (fun a2566 m2567 r2568 => ?_)
                  refine fg_RX0_179 E hW r2568 dX0_reap_129 (fun a2569 m2570 r2571 => ?_)
                  refine lv_iload_n hx hb dX0_reap_132 rfl (lv_at hl 1 rfl) ?_
                  refine lv_dup2_11 hx hb dX0_reap_133 rfl rfl ?_
                  refine gl_345 E hW r2571 ⟨by omega, by omega⟩ dX0_reap_134 (fun y2572 m2573 => ?_)
                  refine lv_iload hx hb dX0_reap_135 (lv_at hl 0 rfl) ?_
                  refine u_iadd hx hb dX0_reap_137 (fun x2575 => ?_)
                  refine gs_345 E hW r2571 ⟨by omega, by omega⟩ dX0_reap_138 (fun f2576 H locs e2577 n2578 g2579 hW => ?_)
                  have hF := FM.tr hF g2579 rfl
                  exact J2561 f2576 ((fm_I g2579 r2491 rfl).trans m2535) ((fm_R g2579 r2491 rfl).trans m2536) ((fm_R g2579 rh0 rfl).trans m2537) ((fm_I g2579 rh0 rfl).trans m2538) _ _ _ hW hF (lv_sub hl [0, 1, 2, 3, 4] rfl)
            refine q_if_eq (tgt := 100) hx hb dX0_reap_77 (by decide) rfl (fun c2580 => ?_) (fun c2580 => ?_)
            · refine lv_aload_n hx hb dX0_reap_100 rfl (lv_at hl 3 rfl) ?_
              refine fg_RX0_35 E hW rh0 dX0_reap_101 (fun a2581 m2582 r2583 => ?_)
              refine lv_iload_n hx hb dX0_reap_104 rfl (lv_at hl 1 rfl) ?_
              refine lv_aload_n hx hb dX0_reap_105 rfl (lv_at hl 3 rfl) ?_
              refine fg_RX0_93 E hW rh0 dX0_reap_106 (fun y2584 m2585 b2586 => ?_)
              refine t_callV (As := [.int y2366, .int y2584]) (rest := []) E hW (c_X7_sacksOf l G cI cJ cZ cD cR cT kp L f2364 hW.2.2.2 _ a2581 y2366 y2584 r2583 (by omega) (by omega)) r2583 (by decide) rfl wk_X7_sacksOf tw_1123 rfl ⟨Nat.le_of_ble_eq_true rfl, Nat.le_of_ble_eq_true rfl⟩ ⟨rfl, rfl⟩ hl.1 rfl (Nat.le_of_ble_eq_true rfl) dX0_reap_109 ⟨Nat.le_of_ble_eq_true rfl, Nat.le_of_ble_eq_true rfl⟩ (fun v2587 f2588 H locs q2589 hW => ?_)
              obtain ⟨⟨x2591, rfl, p2592⟩, g2590⟩ := q2589
              clear p2592
              have hF := FM.tr hF g2590 rfl
              exact J2540 f2588 x2591 ((fm_I g2590 r2491 rfl).trans m2493) ((fm_R g2590 r2491 rfl).trans m2500) ((fm_R g2590 rh0 rfl).trans m2497) ((fm_I g2590 rh0 rfl).trans m2506) _ _ _ hW hF (lv_sub hl [0, 1, 2, 3] rfl)
            · refine lv_aload_n hx hb dX0_reap_80 rfl (lv_at hl 3 rfl) ?_
              refine fg_RX0_110 E hW rh0 dX0_reap_81 (fun y2593 m2594 => ?_)
              refine lv_aload_n hx hb dX0_reap_84 rfl (lv_at hl 3 rfl) ?_
              refine fg_RX0_21 E hW rh0 dX0_reap_85 (fun a2596 m2597 r2598 => ?_)
              obtain rfl : a2489 = a2596 := (m2497).symm.trans m2597
              refine fg_RX0_172 E hW r2491 dX0_reap_88 (fun a2599 m2600 r2601 => ?_)
              refine lv_iload_n hx hb dX0_reap_91 rfl (lv_at hl 1 rfl) ?_
              refine gl_162 E hW r2601 ⟨by omega, by omega⟩ dX0_reap_92 (fun y2602 m2603 => ?_)
              refine u_imul hx hb dX0_reap_93 (fun x2605 => ?_)
              refine lv_bipush (v := 100) hx hb dX0_reap_94 (by decide) ?_
              refine u_idiv hx hb dX0_reap_96 (by decide) (fun x2606 => ?_)
              refine lv_goto (tgt := 112) hx hb dX0_reap_97 (by decide) ?_
              exact J2540 f2364 x2606 m2493 m2500 m2597 m2506 _ _ _ hW hF (lv_sub hl [0, 1, 2, 3] rfl)
    have hk2607 : (0 : Int32).toInt = 0 := rfl
    exact L2368 41 f0 0 m2 (by decide) (by omega) _ _ _ hW hF (lv_sub hl [0, 1, 2] rfl)
  refine q_if_eq (tgt := 25) hx hb dX0_reap_4 (by decide) rfl (fun c2608 => ?_) (fun c2608 => ?_)
  · refine lv_aload_n hx hb dX0_reap_25 rfl (lv_at hl 0 rfl) ?_
    refine fg_RX0_35 E hW rh0 dX0_reap_26 (fun a2609 m2610 r2611 => ?_)
    refine fg_RX0_167 E hW r2611 dX0_reap_29 (fun a2612 m2613 r2614 => ?_)
    refine lv_aload_n hx hb dX0_reap_32 rfl (lv_at hl 0 rfl) ?_
    refine fg_RX0_93 E hW rh0 dX0_reap_33 (fun y2615 m2616 b2617 => ?_)
    refine gl_521 E hW r2614 ⟨by omega, by omega⟩ dX0_reap_36 (fun o2618 m2620 k2619 => ?_)
    rcases o2618 with _ | a2621
    · have hl : lv_has ls 5 [(0, .ref h0)] := hl
      show W p l e ({ frames := 2, cells := 0, slots := 0, locals := 63 }) s m ([.ref h0] : List Value).toArray below meth c _ _ 0 0 (MQ below (QT (po_X0_reap kp L f0 h0) G cI cJ cZ cD cR cT A kp L) ([.ref h0] : List Value).toArray s 0 0 A) (F0 m 37 ls [.null])
      refine lv_ifnullN (tgt := 44) hx hb dX0_reap_37 (by decide) ?_
      refine lv_iconst (v := 0) hx hb dX0_reap_44 (by decide) ?_
      exact J26 0 (by decide) _ _ _ hW hF (lv_sub hl [0] rfl)
    · have r2622 : RK kp L a2621 6 := k2619 _ rfl
      have hl : lv_has ls 5 [(0, .ref h0)] := hl
      show W p l e ({ frames := 2, cells := 0, slots := 0, locals := 63 }) s m ([.ref h0] : List Value).toArray below meth c _ _ 0 0 (MQ below (QT (po_X0_reap kp L f0 h0) G cI cJ cZ cD cR cT A kp L) ([.ref h0] : List Value).toArray s 0 0 A) (F0 m 37 ls [.ref a2621])
      refine lv_ifnull hx hb dX0_reap_37 ?_
      refine lv_iconst (v := 1) hx hb dX0_reap_40 (by decide) ?_
      refine lv_goto (tgt := 45) hx hb dX0_reap_41 (by decide) ?_
      exact J26 1 (by decide) _ _ _ hW hF (lv_sub hl [0] rfl)
  · refine lv_aload_n hx hb dX0_reap_7 rfl (lv_at hl 0 rfl) ?_
    refine fg_RX0_93 E hW rh0 dX0_reap_8 (fun y2623 m2624 b2625 => ?_)
    refine lv_bipush (v := 13) hx hb dX0_reap_11 (by decide) ?_
    refine q_irem (Y := 13) hx hb dX0_reap_13 rfl rfl (by omega) (by omega) (fun x2626 h2627 => ?_)
    refine q_if_ne (tgt := 21) hx hb dX0_reap_14 (by decide) rfl (fun c2628 => ?_) (fun c2628 => ?_)
    · refine lv_iconst (v := 0) hx hb dX0_reap_21 (by decide) ?_
      refine lv_goto (tgt := 45) hx hb dX0_reap_22 (by decide) ?_
      exact J26 0 (by decide) _ _ _ hW hF (lv_sub hl [0] rfl)
    · refine lv_iconst (v := 1) hx hb dX0_reap_17 (by decide) ?_
      refine lv_goto (tgt := 45) hx hb dX0_reap_18 (by decide) ?_
      exact J26 1 (by decide) _ _ _ hW hF (lv_sub hl [0] rfl)
def ms_X0_payDraws : List (Nat × Nat) := [(3, 0), (115, 0), (342, 0)]
def po_X0_payDraws (kp : Nat → Nat) (L : List Nat) (f0 : Nat → va_E) (h0 : Nat) : Option Value → (Nat → va_E) → Prop := fun v f => v = none ∧ FM kp L ms_X0_payDraws f0 f
set_option maxHeartbeats 4000000 in
set_option maxRecDepth 100000 in
theorem c_X0_payDraws (l : Launch) (G : va_G) (cI cJ cZ cD cR cT : ClassId) (kp : Nat → Nat) (L : List Nat) (f0 : Nat → va_E) (hTH : TH cI cJ cZ cD cR cT kp L f0) (sz : Nat) (h0 : Nat) (rh0 : RK kp L h0 0) : Met l yX0_payDraws (Cond.code yX0_payDraws cX0_payDraws 4 none :: wTab) ({ frames := 5, cells := 0, slots := 0, locals := 145 }) (va_Pc [.ref h0] (PreW G (tys6 cI cJ cZ cD cR cT) (va_pl L f0) sz)) (QT (po_X0_payDraws kp L f0 h0) G cI cJ cZ cD cR cT (va_A (va_pl L f0) sz) kp L) 0 0 (va_A (va_pl L f0) sz) := by
  refine metT (by decide) (Nat.le_of_ble_eq_true rfl) hTH ?_
  intro p e s m below meth c A ls E hW hl
  obtain ⟨hx, hb, -, hml, hown, hts, -, -, -⟩ := id E
  have hF : FM kp L ms_X0_payDraws f0 f0 := FM.rf
  have hl : lv_has ls 4 [(0, .ref h0)] := hl
  refine lv_iconst (v := 0) hx hb dX0_payDraws_0 (by decide) ?_
  refine lv_istore_n (lv' := [(1, .int 0), (0, .ref h0)]) hx hb dX0_payDraws_1 rfl hl (by decide) rfl (fun ls hl => ?_)
  have L2493 : ∀ (n : Nat), ∀ (f2490 : Nat → va_E) (y2491 : Int32) (b2492 : (0 : Int) ≤ y2491.toInt ∧ y2491.toInt ≤ 40) (hm : (41 : Int) - y2491.toInt ≤ n) (H : Heap) (locs : List Loc) (ls : Array Slot), WS G cI cJ cZ cD cR cT A kp L f2490 s H locs → FM kp L ms_X0_payDraws f0 f2490 → lv_has ls 4 [(1, .int y2491), (0, .ref h0)] → W p l e ({ frames := 5, cells := 0, slots := 0, locals := 145 }) s m ([.ref h0] : List Value).toArray below meth c H locs 0 0 (MQ below (QT (po_X0_payDraws kp L f0 h0) G cI cJ cZ cD cR cT A kp L) ([.ref h0] : List Value).toArray s 0 0 A) (F0 m 2 ls []) := by
    intro n
    induction n with
    | zero =>
      intro f2490 y2491 b2492 hm H locs ls hW hF hl
      have hz := i32_b y2491
      exfalso; omega
    | succ n ih =>
      intro f2490 y2491 b2492 hm H locs ls hW hF hl
      have ih2 := ih
      refine lv_iload_n hx hb dX0_payDraws_2 rfl (lv_at hl 0 rfl) ?_
      refine lv_aload_n hx hb dX0_payDraws_3 rfl (lv_at hl 1 rfl) ?_
      refine fg_RX0_12 E hW rh0 dX0_payDraws_4 (fun a2494 m2495 r2496 => ?_)
      refine fg_RX0_263 E hW r2496 dX0_payDraws_7 (fun y2497 m2498 b2499 => ?_)
      refine q_icmp_ge (tgt := 97) hx hb dX0_payDraws_10 (by decide) rfl rfl (fun c2621 => ?_) (fun c2621 => ?_)
      · exact e_V E hW rfl ⟨rfl, hF⟩ dX0_payDraws_97
      · refine lv_aload_n hx hb dX0_payDraws_13 rfl (lv_at hl 1 rfl) ?_
        refine fg_RX0_12 E hW rh0 dX0_payDraws_14 (fun a2622 m2623 r2624 => ?_)
        obtain rfl : a2494 = a2622 := (m2495).symm.trans m2623
        refine fg_RX0_182 E hW r2496 dX0_payDraws_17 (fun a2625 m2626 r2627 => ?_)
        refine lv_iload_n hx hb dX0_payDraws_20 rfl (lv_at hl 0 rfl) ?_
        refine gl_346 E hW r2627 ⟨by omega, by omega⟩ dX0_payDraws_21 (fun y2628 m2629 => ?_)
        refine lv_iconst (v := 1) hx hb dX0_payDraws_22 (by decide) ?_
        have J2687 : ∀ (f2683 : Nat → va_E) (m2684 : oI (f2683 a2494) 0 = y2497) (m2685 : oR (f2683 a2494) 6 = a2625) (m2686 : oR (f2683 h0) 0 = a2494) (H : Heap) (locs : List Loc) (ls : Array Slot), WS G cI cJ cZ cD cR cT A kp L f2683 s H locs → FM kp L ms_X0_payDraws f0 f2683 → lv_has ls 4 [(1, .int y2491), (0, .ref h0)] → W p l e ({ frames := 5, cells := 0, slots := 0, locals := 145 }) s m ([.ref h0] : List Value).toArray below meth c H locs 0 0 (MQ below (QT (po_X0_payDraws kp L f0 h0) G cI cJ cZ cD cR cT A kp L) ([.ref h0] : List Value).toArray s 0 0 A) (F0 m 91 ls []) := by
          intro f2683 m2684 m2685 m2686 H locs ls hW hF hl
          refine q_iinc hx hb dX0_payDraws_91 hl (k := 0) rfl rfl rfl (by omega) (by decide) (fun i2688 ls h2689 hl => ?_)
          have hl : lv_has ls 4 [(1, .int i2688), (0, .ref h0)] := hl
          refine lv_goto (tgt := 2) hx hb dX0_payDraws_94 (by decide) ?_
          exact ih2 f2683 i2688 (by omega) (by omega) _ _ _ hW hF (lv_sub hl [0, 1] rfl)
        refine q_icmp_ne (Y := 1) (tgt := 91) hx hb dX0_payDraws_23 (by decide) rfl rfl (fun c2690 => ?_) (fun c2690 => ?_)
        · exact J2687 f2490 m2498 m2626 m2623 _ _ _ hW hF (lv_sub hl [0, 1] rfl)
        · refine lv_aload_n hx hb dX0_payDraws_26 rfl (lv_at hl 1 rfl) ?_
          refine fg_RX0_12 E hW rh0 dX0_payDraws_27 (fun a2691 m2692 r2693 => ?_)
          obtain rfl : a2494 = a2691 := (m2623).symm.trans m2692
          refine fg_RX0_130 E hW r2496 dX0_payDraws_30 (fun a2694 m2695 r2696 => ?_)
          refine lv_iload_n hx hb dX0_payDraws_33 rfl (lv_at hl 0 rfl) ?_
          refine gl_347 E hW r2696 ⟨by omega, by omega⟩ dX0_payDraws_34 (fun y2697 m2698 => ?_)
          refine lv_iconst (v := (-1)) hx hb dX0_payDraws_35 (by decide) ?_
          refine q_icmp_ne (Y := -1) (tgt := 42) hx hb dX0_payDraws_36 (by decide) rfl rfl (fun c2700 => ?_) (fun c2700 => ?_)
          · refine lv_aload_n hx hb dX0_payDraws_42 rfl (lv_at hl 1 rfl) ?_
            refine lv_iload_n hx hb dX0_payDraws_43 rfl (lv_at hl 0 rfl) ?_
            refine t_callV (As := [.int y2491]) (rest := []) E hW (c_X0_drawOf l G cI cJ cZ cD cR cT kp L f2490 hW.2.2.2 _ h0 y2491 rh0 (by omega)) rh0 (by decide) rfl wk_X0_drawOf tw_1162 rfl ⟨Nat.le_of_ble_eq_true rfl, Nat.le_of_ble_eq_true rfl⟩ ⟨rfl, rfl⟩ hl.1 rfl (Nat.le_of_ble_eq_true rfl) dX0_payDraws_44 ⟨Nat.le_of_ble_eq_true rfl, Nat.le_of_ble_eq_true rfl⟩ (fun v2701 f2702 H locs q2703 hW => ?_)
            obtain ⟨⟨x2705, rfl, p2706⟩, g2704⟩ := q2703
            clear p2706
            have hF := FM.tr hF g2704 rfl
            refine lv_lstore_n (lv' := [(2, .long x2705), (1, .int y2491), (0, .ref h0)]) hx hb dX0_payDraws_47 rfl hl (by decide) rfl (fun ls hl => ?_)
            refine lv_lload_n hx hb dX0_payDraws_48 rfl (lv_at hl 0 rfl) ?_
            refine lv_lconst (v := 0) hx hb dX0_payDraws_49 (by decide) ?_
            refine q_lcmp_le (Y := 0) (tgt := 91) hx hb dX0_payDraws_50 dX0_payDraws_51 (by decide) rfl rfl (fun c2707 => ?_) (fun c2707 => ?_)
            · exact J2687 f2702 ((fm_I g2704 r2496 rfl).trans m2498) ((fm_R g2704 r2496 rfl).trans m2626) ((fm_R g2704 rh0 rfl).trans m2692) _ _ _ hW hF (lv_sub hl [1, 2] rfl)
            · refine lv_lload_n hx hb dX0_payDraws_54 rfl (lv_at hl 0 rfl) ?_
              refine lv_aload_n hx hb dX0_payDraws_55 rfl (lv_at hl 2 rfl) ?_
              refine fg_RX0_49 E hW rh0 dX0_payDraws_56 (fun a2708 m2709 r2710 => ?_)
              refine fg_RX0_268 E hW r2710 dX0_payDraws_59 (fun y2711 m2712 => ?_)
              refine q_i2l hx hb dX0_payDraws_62 rfl (fun x2714 h2715 => ?_)
              have hb2716 : -2147483648 ≤ x2714.toInt ∧ x2714.toInt ≤ 2147483647 := by have := i32_b y2711; omega
              refine q_lcmp_gt (tgt := 91) hx hb dX0_payDraws_63 dX0_payDraws_64 (by decide) rfl rfl (fun c2717 => ?_) (fun c2717 => ?_)
              · exact J2687 f2702 ((fm_I g2704 r2496 rfl).trans m2498) ((fm_R g2704 r2496 rfl).trans m2626) ((fm_R g2704 rh0 rfl).trans m2692) _ _ _ hW hF (lv_sub hl [1, 2] rfl)
              · refine lv_aload_n hx hb dX0_payDraws_67 rfl (lv_at hl 2 rfl) ?_
                refine fg_RX0_49 E hW rh0 dX0_payDraws_68 (fun a2718 m2719 r2720 => ?_)
                obtain rfl : a2708 = a2718 := (m2709).symm.trans m2719
                refine lv_dup hx hb dX0_payDraws_71 rfl ?_
                refine fg_RX0_268 E hW r2710 dX0_payDraws_72 (fun y2721 m2722 => ?_)
                obtain rfl : y2711 = y2721 := (m2712).symm.trans m2722
                refine lv_lload_n hx hb dX0_payDraws_75 rfl (lv_at hl 0 rfl) ?_
                refine q_l2i hx hb dX0_payDraws_76 rfl (by omega) (fun x2724 h2725 => ?_)
                have hb2728 : -2147483648 ≤ y2711.toInt ∧ y2711.toInt ≤ 2147483647 := i32_b y2711
                have hb2729 : -2147483648 ≤ x2724.toInt ∧ x2724.toInt ≤ 2147483647 := i32_b x2724
                refine q_isub hx hb dX0_payDraws_77 rfl rfl (by omega) (fun x2726 h2727 => ?_)
                refine fp_RX0_268 E hW r2710 dX0_payDraws_78 (fun f2730 H locs e2731 n2732 g2733 hW => ?_)
                have hF := FM.tr hF g2733 rfl
                refine lv_aload_n hx hb dX0_payDraws_81 rfl (lv_at hl 2 rfl) ?_
                refine fg_RX0_12 E hW rh0 dX0_payDraws_82 (fun a2734 m2735 r2736 => ?_)
                obtain rfl : a2494 = a2734 := (((fm_R g2733 rh0 rfl).trans ((fm_R g2704 rh0 rfl).trans m2692))).symm.trans m2735
                refine lv_iload_n hx hb dX0_payDraws_85 rfl (lv_at hl 1 rfl) ?_
                refine lv_lload_n hx hb dX0_payDraws_86 rfl (lv_at hl 0 rfl) ?_
                refine q_l2i hx hb dX0_payDraws_87 rfl (by omega) (fun x2737 h2738 => ?_)
                refine t_callV (As := [.int y2491, .int x2737]) (rest := []) E hW (c_X4_gain l G cI cJ cZ cD cR cT kp L f2730 hW.2.2.2 _ a2494 y2491 x2737 r2496 (by omega) (by omega)) r2496 (by decide) rfl wk_X4_gain tw_1166 rfl ⟨Nat.le_of_ble_eq_true rfl, Nat.le_of_ble_eq_true rfl⟩ ⟨rfl, rfl⟩ hl.1 rfl (Nat.le_of_ble_eq_true rfl) dX0_payDraws_88 ⟨Nat.le_of_ble_eq_true rfl, Nat.le_of_ble_eq_true rfl⟩ (fun v2739 f2740 H locs q2741 hW => ?_)
                obtain ⟨rfl, g2742⟩ := q2741
                have hF := FM.tr hF g2742 rfl
                exact J2687 f2740 ((fm_I g2742 r2496 rfl).trans ((fm_I g2733 r2496 rfl).trans ((fm_I g2704 r2496 rfl).trans m2498))) ((fm_R g2742 r2496 rfl).trans ((fm_R g2733 r2496 rfl).trans ((fm_R g2704 r2496 rfl).trans m2626))) ((fm_R g2742 rh0 rfl).trans m2735) _ _ _ hW hF (lv_sub hl [1, 2] rfl)
          · refine lv_goto (tgt := 91) hx hb dX0_payDraws_39 (by decide) ?_
            exact J2687 f2490 m2498 m2626 m2692 _ _ _ hW hF (lv_sub hl [0, 1] rfl)
  have hk2743 : (0 : Int32).toInt = 0 := rfl
  exact L2493 41 f0 0 (by decide) (by omega) _ _ _ hW hF (lv_sub hl [0, 1] rfl)
def ms_X0_renewBans : List (Nat × Nat) := [(115, 0), (348, 0), (349, 0)]
def po_X0_renewBans (kp : Nat → Nat) (L : List Nat) (f0 : Nat → va_E) (h0 : Nat) : Option Value → (Nat → va_E) → Prop := fun v f => v = none ∧ FM kp L ms_X0_renewBans f0 f
set_option maxHeartbeats 4000000 in
set_option maxRecDepth 100000 in
theorem c_X0_renewBans (l : Launch) (G : va_G) (cI cJ cZ cD cR cT : ClassId) (kp : Nat → Nat) (L : List Nat) (f0 : Nat → va_E) (hTH : TH cI cJ cZ cD cR cT kp L f0) (sz : Nat) (h0 : Nat) (rh0 : RK kp L h0 0) : Met l yX0_renewBans (Cond.code yX0_renewBans cX0_renewBans 2 none :: wTab) ({ frames := 5, cells := 0, slots := 0, locals := 143 }) (va_Pc [.ref h0] (PreW G (tys6 cI cJ cZ cD cR cT) (va_pl L f0) sz)) (QT (po_X0_renewBans kp L f0 h0) G cI cJ cZ cD cR cT (va_A (va_pl L f0) sz) kp L) 0 0 (va_A (va_pl L f0) sz) := by
  refine metT (by decide) (Nat.le_of_ble_eq_true rfl) hTH ?_
  intro p e s m below meth c A ls E hW hl
  obtain ⟨hx, hb, -, hml, hown, hts, -, -, -⟩ := id E
  have hF : FM kp L ms_X0_renewBans f0 f0 := FM.rf
  have hl : lv_has ls 2 [(0, .ref h0)] := hl
  refine lv_iconst (v := 0) hx hb dX0_renewBans_0 (by decide) ?_
  refine lv_istore_n (lv' := [(1, .int 0), (0, .ref h0)]) hx hb dX0_renewBans_1 rfl hl (by decide) rfl (fun ls hl => ?_)
  have L612 : ∀ (n : Nat), ∀ (f609 : Nat → va_E) (y610 : Int32) (b611 : (0 : Int) ≤ y610.toInt ∧ y610.toInt ≤ 40) (hm : (41 : Int) - y610.toInt ≤ n) (H : Heap) (locs : List Loc) (ls : Array Slot), WS G cI cJ cZ cD cR cT A kp L f609 s H locs → FM kp L ms_X0_renewBans f0 f609 → lv_has ls 2 [(1, .int y610), (0, .ref h0)] → W p l e ({ frames := 5, cells := 0, slots := 0, locals := 143 }) s m ([.ref h0] : List Value).toArray below meth c H locs 0 0 (MQ below (QT (po_X0_renewBans kp L f0 h0) G cI cJ cZ cD cR cT A kp L) ([.ref h0] : List Value).toArray s 0 0 A) (F0 m 2 ls []) := by
    intro n
    induction n with
    | zero =>
      intro f609 y610 b611 hm H locs ls hW hF hl
      have hz := i32_b y610
      exfalso; omega
    | succ n ih =>
      intro f609 y610 b611 hm H locs ls hW hF hl
      have ih2 := ih
      refine lv_iload_n hx hb dX0_renewBans_2 rfl (lv_at hl 0 rfl) ?_
      refine lv_aload_n hx hb dX0_renewBans_3 rfl (lv_at hl 1 rfl) ?_
      refine fg_RX0_12 E hW rh0 dX0_renewBans_4 (fun a613 m614 r615 => ?_)
      refine fg_RX0_263 E hW r615 dX0_renewBans_7 (fun y616 m617 b618 => ?_)
      refine q_icmp_ge (tgt := 45) hx hb dX0_renewBans_10 (by decide) rfl rfl (fun c641 => ?_) (fun c641 => ?_)
      · refine lv_aload_n hx hb dX0_renewBans_45 rfl (lv_at hl 1 rfl) ?_
        refine fg_RX0_12 E hW rh0 dX0_renewBans_46 (fun a642 m643 r644 => ?_)
        obtain rfl : a613 = a642 := (m614).symm.trans m643
        refine fg_RX0_274 E hW r615 dX0_renewBans_49 (fun a645 m646 r647 => ?_)
        refine lv_iconst (v := 0) hx hb dX0_renewBans_52 (by decide) ?_
        refine lv_aload_n hx hb dX0_renewBans_53 rfl (lv_at hl 1 rfl) ?_
        refine fg_RX0_12 E hW rh0 dX0_renewBans_54 (fun a648 m649 r650 => ?_)
        obtain rfl : a613 = a648 := (m643).symm.trans m649
        refine fg_RX0_277 E hW r615 dX0_renewBans_57 (fun a651 m652 r653 => ?_)
        refine lv_iconst (v := 0) hx hb dX0_renewBans_60 (by decide) ?_
        refine lv_aload_n hx hb dX0_renewBans_61 rfl (lv_at hl 1 rfl) ?_
        refine fg_RX0_12 E hW rh0 dX0_renewBans_62 (fun a654 m655 r656 => ?_)
        obtain rfl : a613 = a654 := (m649).symm.trans m655
        refine fg_RX0_263 E hW r615 dX0_renewBans_65 (fun y657 m658 b659 => ?_)
        obtain rfl : y616 = y657 := (m617).symm.trans m658
        refine t_copy (n0 := 40) (n1 := 40) E hW tw_1175 ⟨tw_1004, tw_1003, tw_122⟩ hl.1 rfl r647 (by decide) rfl r653 (by decide) rfl rfl (by decide) rfl (by decide) (by decide) ⟨by omega, by omega⟩ (fun _ _ => trivial) ⟨Nat.le_of_ble_eq_true rfl, Nat.le_of_ble_eq_true rfl⟩ dX0_renewBans_68 (fun f660 H locs n662 g663 hW => ?_)
        have hF := FM.tr hF g663 rfl
        exact e_V E hW rfl ⟨rfl, hF⟩ dX0_renewBans_71
      · refine lv_aload_n hx hb dX0_renewBans_13 rfl (lv_at hl 1 rfl) ?_
        refine fg_RX0_12 E hW rh0 dX0_renewBans_14 (fun a664 m665 r666 => ?_)
        obtain rfl : a613 = a664 := (m614).symm.trans m665
        refine fg_RX0_274 E hW r615 dX0_renewBans_17 (fun a667 m668 r669 => ?_)
        refine lv_iload_n hx hb dX0_renewBans_20 rfl (lv_at hl 0 rfl) ?_
        refine lv_aload_n hx hb dX0_renewBans_21 rfl (lv_at hl 1 rfl) ?_
        refine lv_sipush (v := 263) hx hb dX0_renewBans_22 (by decide) ?_
        refine lv_iload_n hx hb dX0_renewBans_25 rfl (lv_at hl 0 rfl) ?_
        refine lv_iconst (v := (-1)) hx hb dX0_renewBans_26 (by decide) ?_
        refine t_callV (As := [.int 263, .int y610, .int (-1)]) (rest := [.int y610, .ref a667]) E hW (c_X0_anyHolds l G cI cJ cZ cD cR cT kp L f609 hW.2.2.2 _ h0 263 y610 (-1) rh0 (by decide) (by omega) (by decide)) rh0 (by decide) rfl wk_X0_anyHolds tw_752 rfl ⟨Nat.le_of_ble_eq_true rfl, Nat.le_of_ble_eq_true rfl⟩ ⟨rfl, rfl⟩ hl.1 rfl (Nat.le_of_ble_eq_true rfl) dX0_renewBans_27 ⟨Nat.le_of_ble_eq_true rfl, Nat.le_of_ble_eq_true rfl⟩ (fun v670 f671 H locs q672 hW => ?_)
        obtain ⟨⟨x674, rfl, p675⟩, g673⟩ := q672
        have p675 : (0 : Int) ≤ x674.toInt ∧ x674.toInt ≤ 1 := p675
        have hF := FM.tr hF g673 rfl
        have J678 : ∀ (y676 : Int32) (b677 : (0 : Int) ≤ y676.toInt ∧ y676.toInt ≤ 1) (H : Heap) (locs : List Loc) (ls : Array Slot), WS G cI cJ cZ cD cR cT A kp L f671 s H locs → FM kp L ms_X0_renewBans f0 f671 → lv_has ls 2 [(1, .int y610), (0, .ref h0)] → W p l e ({ frames := 5, cells := 0, slots := 0, locals := 143 }) s m ([.ref h0] : List Value).toArray below meth c H locs 0 0 (MQ below (QT (po_X0_renewBans kp L f0 h0) G cI cJ cZ cD cR cT A kp L) ([.ref h0] : List Value).toArray s 0 0 A) (F0 m 38 ls [.int y676, .int y610, .ref a667]) := by
          intro y676 b677 H locs ls hW hF hl
          clear p675
          refine gs_349 E hW r669 ⟨by omega, by omega⟩ dX0_renewBans_38 (fun f679 H locs e680 n681 g682 hW => ?_)
          have hF := FM.tr hF g682 rfl
          refine q_iinc hx hb dX0_renewBans_39 hl (k := 0) rfl rfl rfl (by omega) (by decide) (fun i683 ls h684 hl => ?_)
          have hl : lv_has ls 2 [(1, .int i683), (0, .ref h0)] := hl
          refine lv_goto (tgt := 2) hx hb dX0_renewBans_42 (by decide) ?_
          exact ih2 f679 i683 (by omega) (by omega) _ _ _ hW hF (lv_sub hl [0, 1] rfl)
        refine q_if_eq (tgt := 37) hx hb dX0_renewBans_30 (by decide) rfl (fun c685 => ?_) (fun c685 => ?_)
        · refine lv_iconst (v := 0) hx hb dX0_renewBans_37 (by decide) ?_
          exact J678 0 (by decide) _ _ _ hW hF (lv_sub hl [0, 1] rfl)
        · refine lv_iconst (v := 1) hx hb dX0_renewBans_33 (by decide) ?_
          refine lv_goto (tgt := 38) hx hb dX0_renewBans_34 (by decide) ?_
          exact J678 1 (by decide) _ _ _ hW hF (lv_sub hl [0, 1] rfl)
  have hk686 : (0 : Int32).toInt = 0 := rfl
  exact L612 41 f0 0 (by decide) (by omega) _ _ _ hW hF (lv_sub hl [0, 1] rfl)
def ms_X0_payMortgages : List (Nat × Nat) := [(169, 0), (171, 0)]
def po_X0_payMortgages (kp : Nat → Nat) (L : List Nat) (f0 : Nat → va_E) (h0 : Nat) : Option Value → (Nat → va_E) → Prop := fun v f => v = none ∧ FM kp L ms_X0_payMortgages f0 f
set_option maxHeartbeats 4000000 in
set_option maxRecDepth 100000 in
theorem c_X0_payMortgages (l : Launch) (G : va_G) (cI cJ cZ cD cR cT : ClassId) (kp : Nat → Nat) (L : List Nat) (f0 : Nat → va_E) (hTH : TH cI cJ cZ cD cR cT kp L f0) (sz : Nat) (h0 : Nat) (rh0 : RK kp L h0 0) : Met l yX0_payMortgages (Cond.code yX0_payMortgages cX0_payMortgages 2 none :: wTab) ({ frames := 1, cells := 0, slots := 0, locals := 40 }) (va_Pc [.ref h0] (PreW G (tys6 cI cJ cZ cD cR cT) (va_pl L f0) sz)) (QT (po_X0_payMortgages kp L f0 h0) G cI cJ cZ cD cR cT (va_A (va_pl L f0) sz) kp L) 0 0 (va_A (va_pl L f0) sz) := by
  refine metT (by decide) (Nat.le_of_ble_eq_true rfl) hTH ?_
  intro p e s m below meth c A ls E hW hl
  obtain ⟨hx, hb, -, hml, hown, hts, -, -, -⟩ := id E
  have hF : FM kp L ms_X0_payMortgages f0 f0 := FM.rf
  have hl : lv_has ls 2 [(0, .ref h0)] := hl
  refine lv_iconst (v := 0) hx hb dX0_payMortgages_0 (by decide) ?_
  refine lv_istore_n (lv' := [(1, .int 0), (0, .ref h0)]) hx hb dX0_payMortgages_1 rfl hl (by decide) rfl (fun ls hl => ?_)
  have L1489 : ∀ (n : Nat), ∀ (f1486 : Nat → va_E) (y1487 : Int32) (b1488 : (0 : Int) ≤ y1487.toInt ∧ y1487.toInt ≤ 8) (hm : (9 : Int) - y1487.toInt ≤ n) (H : Heap) (locs : List Loc) (ls : Array Slot), WS G cI cJ cZ cD cR cT A kp L f1486 s H locs → FM kp L ms_X0_payMortgages f0 f1486 → lv_has ls 2 [(1, .int y1487), (0, .ref h0)] → W p l e ({ frames := 1, cells := 0, slots := 0, locals := 40 }) s m ([.ref h0] : List Value).toArray below meth c H locs 0 0 (MQ below (QT (po_X0_payMortgages kp L f0 h0) G cI cJ cZ cD cR cT A kp L) ([.ref h0] : List Value).toArray s 0 0 A) (F0 m 2 ls []) := by
    intro n
    induction n with
    | zero =>
      intro f1486 y1487 b1488 hm H locs ls hW hF hl
      have hz := i32_b y1487
      exfalso; omega
    | succ n ih =>
      intro f1486 y1487 b1488 hm H locs ls hW hF hl
      have ih2 := ih
      refine lv_iload_n hx hb dX0_payMortgages_2 rfl (lv_at hl 0 rfl) ?_
      refine lv_aload_n hx hb dX0_payMortgages_3 rfl (lv_at hl 1 rfl) ?_
      refine fg_RX0_21 E hW rh0 dX0_payMortgages_4 (fun a1490 m1491 r1492 => ?_)
      refine fg_RX0_216 E hW r1492 dX0_payMortgages_7 (fun y1493 m1494 b1495 => ?_)
      refine q_icmp_ge (tgt := 106) hx hb dX0_payMortgages_10 (by decide) rfl rfl (fun c1651 => ?_) (fun c1651 => ?_)
      · exact e_V E hW rfl ⟨rfl, hF⟩ dX0_payMortgages_106
      · refine lv_aload_n hx hb dX0_payMortgages_13 rfl (lv_at hl 1 rfl) ?_
        refine fg_RX0_21 E hW rh0 dX0_payMortgages_14 (fun a1652 m1653 r1654 => ?_)
        obtain rfl : a1490 = a1652 := (m1491).symm.trans m1653
        refine fg_RX0_219 E hW r1492 dX0_payMortgages_17 (fun a1655 m1656 r1657 => ?_)
        refine lv_iload_n hx hb dX0_payMortgages_20 rfl (lv_at hl 0 rfl) ?_
        refine gl_171 E hW r1657 ⟨by omega, by omega⟩ dX0_payMortgages_21 (fun y1658 m1659 => ?_)
        refine lv_iconst (v := (-1)) hx hb dX0_payMortgages_22 (by decide) ?_
        have J1734 : ∀ (f1730 : Nat → va_E) (m1731 : oI (f1730 a1490) 8 = y1493) (m1732 : oR (f1730 a1490) 11 = a1655) (m1733 : oR (f1730 h0) 1 = a1490) (H : Heap) (locs : List Loc) (ls : Array Slot), WS G cI cJ cZ cD cR cT A kp L f1730 s H locs → FM kp L ms_X0_payMortgages f0 f1730 → lv_has ls 2 [(1, .int y1487), (0, .ref h0)] → W p l e ({ frames := 1, cells := 0, slots := 0, locals := 40 }) s m ([.ref h0] : List Value).toArray below meth c H locs 0 0 (MQ below (QT (po_X0_payMortgages kp L f0 h0) G cI cJ cZ cD cR cT A kp L) ([.ref h0] : List Value).toArray s 0 0 A) (F0 m 100 ls []) := by
          intro f1730 m1731 m1732 m1733 H locs ls hW hF hl
          refine q_iinc hx hb dX0_payMortgages_100 hl (k := 0) rfl rfl rfl (by omega) (by decide) (fun i1735 ls h1736 hl => ?_)
          have hl : lv_has ls 2 [(1, .int i1735), (0, .ref h0)] := hl
          refine lv_goto (tgt := 2) hx hb dX0_payMortgages_103 (by decide) ?_
          exact ih2 f1730 i1735 (by omega) (by omega) _ _ _ hW hF (lv_sub hl [0, 1] rfl)
        refine q_icmp_eq (Y := -1) (tgt := 29) hx hb dX0_payMortgages_23 (by decide) rfl rfl (fun c1737 => ?_) (fun c1737 => ?_)
        · refine lv_aload_n hx hb dX0_payMortgages_29 rfl (lv_at hl 1 rfl) ?_
          refine fg_RX0_21 E hW rh0 dX0_payMortgages_30 (fun a1738 m1739 r1740 => ?_)
          obtain rfl : a1490 = a1738 := (m1653).symm.trans m1739
          refine fg_RX0_201 E hW r1492 dX0_payMortgages_33 (fun a1741 m1742 r1743 => ?_)
          refine lv_iload_n hx hb dX0_payMortgages_36 rfl (lv_at hl 0 rfl) ?_
          refine gl_169 E hW r1743 ⟨by omega, by omega⟩ dX0_payMortgages_37 (fun y1744 m1745 => ?_)
          refine lv_aload_n hx hb dX0_payMortgages_38 rfl (lv_at hl 1 rfl) ?_
          refine fg_RX0_21 E hW rh0 dX0_payMortgages_39 (fun a1747 m1748 r1749 => ?_)
          obtain rfl : a1490 = a1747 := (m1739).symm.trans m1748
          refine fg_RX0_222 E hW r1492 dX0_payMortgages_42 (fun a1750 m1751 r1752 => ?_)
          refine lv_iload_n hx hb dX0_payMortgages_45 rfl (lv_at hl 0 rfl) ?_
          refine gl_170 E hW r1752 ⟨by omega, by omega⟩ dX0_payMortgages_46 (fun y1753 m1754 => ?_)
          refine q_icmp_ge (tgt := 79) hx hb dX0_payMortgages_47 (by decide) rfl rfl (fun c1756 => ?_) (fun c1756 => ?_)
          · refine lv_aload_n hx hb dX0_payMortgages_79 rfl (lv_at hl 1 rfl) ?_
            refine fg_RX0_21 E hW rh0 dX0_payMortgages_80 (fun a1757 m1758 r1759 => ?_)
            obtain rfl : a1490 = a1757 := (m1748).symm.trans m1758
            refine fg_RX0_201 E hW r1492 dX0_payMortgages_83 (fun a1760 m1761 r1762 => ?_)
            obtain rfl : a1741 = a1760 := (m1742).symm.trans m1761
            refine lv_iload_n hx hb dX0_payMortgages_86 rfl (lv_at hl 0 rfl) ?_
            refine lv_dup2_11 hx hb dX0_payMortgages_87 rfl rfl ?_
            refine gl_169 E hW r1743 ⟨by omega, by omega⟩ dX0_payMortgages_88 (fun y1763 m1764 => ?_)
            obtain rfl : y1744 = y1763 := (m1745).symm.trans m1764
            refine lv_aload_n hx hb dX0_payMortgages_89 rfl (lv_at hl 1 rfl) ?_
            refine fg_RX0_21 E hW rh0 dX0_payMortgages_90 (fun a1766 m1767 r1768 => ?_)
            obtain rfl : a1490 = a1766 := (m1758).symm.trans m1767
            refine fg_RX0_222 E hW r1492 dX0_payMortgages_93 (fun a1769 m1770 r1771 => ?_)
            obtain rfl : a1750 = a1769 := (m1751).symm.trans m1770
            refine lv_iload_n hx hb dX0_payMortgages_96 rfl (lv_at hl 0 rfl) ?_
            refine gl_170 E hW r1752 ⟨by omega, by omega⟩ dX0_payMortgages_97 (fun y1772 m1773 => ?_)
            obtain rfl : y1753 = y1772 := (m1754).symm.trans m1773
            refine u_isub hx hb dX0_payMortgages_98 (fun x1775 => ?_)
            refine gs_169 E hW r1743 ⟨by omega, by omega⟩ dX0_payMortgages_99 (fun f1776 H locs e1777 n1778 g1779 hW => ?_)
            have hF := FM.tr hF g1779 rfl
            exact J1734 f1776 ((fm_I g1779 r1492 rfl).trans m1494) ((fm_R g1779 r1492 rfl).trans m1656) ((fm_R g1779 rh0 rfl).trans m1767) _ _ _ hW hF (lv_sub hl [0, 1] rfl)
          · have hb1780 : y1744.toInt ≤ 2147483646 := by have := i32_b y1753; omega
            have hb1781 : -2147483647 ≤ y1753.toInt := by have := i32_b y1744; omega
            refine lv_aload_n hx hb dX0_payMortgages_50 rfl (lv_at hl 1 rfl) ?_
            refine fg_RX0_21 E hW rh0 dX0_payMortgages_51 (fun a1782 m1783 r1784 => ?_)
            obtain rfl : a1490 = a1782 := (m1748).symm.trans m1783
            refine fg_RX0_219 E hW r1492 dX0_payMortgages_54 (fun a1785 m1786 r1787 => ?_)
            obtain rfl : a1655 = a1785 := (m1656).symm.trans m1786
            refine lv_iload_n hx hb dX0_payMortgages_57 rfl (lv_at hl 0 rfl) ?_
            refine lv_aload_n hx hb dX0_payMortgages_58 rfl (lv_at hl 1 rfl) ?_
            refine fg_RX0_93 E hW rh0 dX0_payMortgages_59 (fun y1788 m1789 b1790 => ?_)
            refine lv_bipush (v := 13) hx hb dX0_payMortgages_62 (by decide) ?_
            refine q_idiv (Y := 13) hx hb dX0_payMortgages_64 rfl rfl (by omega) (by omega) (fun x1791 h1792 => ?_)
            refine gs_171 E hW r1657 ⟨by omega, by omega⟩ dX0_payMortgages_65 (fun f1793 H locs e1794 n1795 g1796 hW => ?_)
            have hF := FM.tr hF g1796 rfl
            refine lv_aload_n hx hb dX0_payMortgages_66 rfl (lv_at hl 1 rfl) ?_
            refine fg_RX0_21 E hW rh0 dX0_payMortgages_67 (fun a1797 m1798 r1799 => ?_)
            obtain rfl : a1490 = a1797 := (((fm_R g1796 rh0 rfl).trans m1783)).symm.trans m1798
            refine fg_RX0_201 E hW r1492 dX0_payMortgages_70 (fun a1800 m1801 r1802 => ?_)
            obtain rfl : a1741 = a1800 := (((fm_R g1796 r1492 rfl).trans m1742)).symm.trans m1801
            refine lv_iload_n hx hb dX0_payMortgages_73 rfl (lv_at hl 0 rfl) ?_
            refine lv_iconst (v := 0) hx hb dX0_payMortgages_74 (by decide) ?_
            refine gs_169 E hW r1743 ⟨by omega, by omega⟩ dX0_payMortgages_75 (fun f1803 H locs e1804 n1805 g1806 hW => ?_)
            have hF := FM.tr hF g1806 rfl
            refine lv_goto (tgt := 100) hx hb dX0_payMortgages_76 (by decide) ?_
            exact J1734 f1803 ((fm_I g1806 r1492 rfl).trans ((fm_I g1796 r1492 rfl).trans m1494)) ((fm_R g1806 r1492 rfl).trans ((fm_R g1796 r1492 rfl).trans m1786)) ((fm_R g1806 rh0 rfl).trans m1798) _ _ _ hW hF (lv_sub hl [0, 1] rfl)
        · refine lv_goto (tgt := 100) hx hb dX0_payMortgages_26 (by decide) ?_
          exact J1734 f1486 m1494 m1656 m1653 _ _ _ hW hF (lv_sub hl [0, 1] rfl)
  have hk1807 : (0 : Int32).toInt = 0 := rfl
  exact L1489 9 f0 0 (by decide) (by omega) _ _ _ hW hF (lv_sub hl [0, 1] rfl)
def ms_X0_tellWrits : List (Nat × Nat) := [(10, 0), (701, 0), (702, 0), (703, 0), (704, 0), (705, 0), (706, 0)]
def po_X0_tellWrits (kp : Nat → Nat) (L : List Nat) (f0 : Nat → va_E) (h0 : Nat) : Option Value → (Nat → va_E) → Prop := fun v f => v = none ∧ FM kp L ms_X0_tellWrits f0 f
set_option maxHeartbeats 4000000 in
set_option maxRecDepth 100000 in
theorem c_X0_tellWrits (l : Launch) (G : va_G) (cI cJ cZ cD cR cT : ClassId) (kp : Nat → Nat) (L : List Nat) (f0 : Nat → va_E) (hTH : TH cI cJ cZ cD cR cT kp L f0) (sz : Nat) (h0 : Nat) (rh0 : RK kp L h0 0) : Met l yX0_tellWrits (Cond.code yX0_tellWrits cX0_tellWrits 2 none :: wTab) ({ frames := 3, cells := 0, slots := 0, locals := 87 }) (va_Pc [.ref h0] (PreW G (tys6 cI cJ cZ cD cR cT) (va_pl L f0) sz)) (QT (po_X0_tellWrits kp L f0 h0) G cI cJ cZ cD cR cT (va_A (va_pl L f0) sz) kp L) 0 0 (va_A (va_pl L f0) sz) := by
  refine metT (by decide) (Nat.le_of_ble_eq_true rfl) hTH ?_
  intro p e s m below meth c A ls E hW hl
  obtain ⟨hx, hb, -, hml, hown, hts, -, -, -⟩ := id E
  have hF : FM kp L ms_X0_tellWrits f0 f0 := FM.rf
  have hl : lv_has ls 2 [(0, .ref h0)] := hl
  refine lv_iconst (v := 0) hx hb dX0_tellWrits_0 (by decide) ?_
  refine lv_istore_n (lv' := [(1, .int 0), (0, .ref h0)]) hx hb dX0_tellWrits_1 rfl hl (by decide) rfl (fun ls hl => ?_)
  have L2341 : ∀ (n : Nat), ∀ (f2338 : Nat → va_E) (y2339 : Int32) (b2340 : (0 : Int) ≤ y2339.toInt ∧ y2339.toInt ≤ 40) (hm : (41 : Int) - y2339.toInt ≤ n) (H : Heap) (locs : List Loc) (ls : Array Slot), WS G cI cJ cZ cD cR cT A kp L f2338 s H locs → FM kp L ms_X0_tellWrits f0 f2338 → lv_has ls 2 [(1, .int y2339), (0, .ref h0)] → W p l e ({ frames := 3, cells := 0, slots := 0, locals := 87 }) s m ([.ref h0] : List Value).toArray below meth c H locs 0 0 (MQ below (QT (po_X0_tellWrits kp L f0 h0) G cI cJ cZ cD cR cT A kp L) ([.ref h0] : List Value).toArray s 0 0 A) (F0 m 2 ls []) := by
    intro n
    induction n with
    | zero =>
      intro f2338 y2339 b2340 hm H locs ls hW hF hl
      have hz := i32_b y2339
      exfalso; omega
    | succ n ih =>
      intro f2338 y2339 b2340 hm H locs ls hW hF hl
      have ih2 := ih
      refine lv_iload_n hx hb dX0_tellWrits_2 rfl (lv_at hl 0 rfl) ?_
      refine lv_aload_n hx hb dX0_tellWrits_3 rfl (lv_at hl 1 rfl) ?_
      refine fg_RX0_21 E hW rh0 dX0_tellWrits_4 (fun a2342 m2343 r2344 => ?_)
      refine fg_RX0_171 E hW r2344 dX0_tellWrits_7 (fun y2345 m2346 b2347 => ?_)
      refine q_icmp_ge (tgt := 85) hx hb dX0_tellWrits_10 (by decide) rfl rfl (fun c2461 => ?_) (fun c2461 => ?_)
      · exact e_V E hW rfl ⟨rfl, hF⟩ dX0_tellWrits_85
      · refine lv_aload_n hx hb dX0_tellWrits_13 rfl (lv_at hl 1 rfl) ?_
        refine fg_RX0_21 E hW rh0 dX0_tellWrits_14 (fun a2462 m2463 r2464 => ?_)
        obtain rfl : a2342 = a2462 := (m2343).symm.trans m2463
        refine fg_RX0_124 E hW r2344 dX0_tellWrits_17 (fun a2465 m2466 r2467 => ?_)
        refine lv_iload_n hx hb dX0_tellWrits_20 rfl (lv_at hl 0 rfl) ?_
        refine gl_164 E hW r2467 ⟨by omega, by omega⟩ dX0_tellWrits_21 (fun y2468 m2469 b2470 => ?_)
        refine lv_iconst (v := (-1)) hx hb dX0_tellWrits_22 (by decide) ?_
        have J2523 : ∀ (f2519 : Nat → va_E) (m2520 : oI (f2519 a2342) 0 = y2345) (m2521 : oR (f2519 a2342) 4 = a2465) (m2522 : oR (f2519 h0) 1 = a2342) (H : Heap) (locs : List Loc) (ls : Array Slot), WS G cI cJ cZ cD cR cT A kp L f2519 s H locs → FM kp L ms_X0_tellWrits f0 f2519 → lv_has ls 2 [(1, .int y2339), (0, .ref h0)] → W p l e ({ frames := 3, cells := 0, slots := 0, locals := 87 }) s m ([.ref h0] : List Value).toArray below meth c H locs 0 0 (MQ below (QT (po_X0_tellWrits kp L f0 h0) G cI cJ cZ cD cR cT A kp L) ([.ref h0] : List Value).toArray s 0 0 A) (F0 m 79 ls []) := by
          intro f2519 m2520 m2521 m2522 H locs ls hW hF hl
          clear b2470
          refine q_iinc hx hb dX0_tellWrits_79 hl (k := 0) rfl rfl rfl (by omega) (by decide) (fun i2524 ls h2525 hl => ?_)
          have hl : lv_has ls 2 [(1, .int i2524), (0, .ref h0)] := hl
          refine lv_goto (tgt := 2) hx hb dX0_tellWrits_82 (by decide) ?_
          exact ih2 f2519 i2524 (by omega) (by omega) _ _ _ hW hF (lv_sub hl [0, 1] rfl)
        refine q_icmp_eq (Y := -1) (tgt := 79) hx hb dX0_tellWrits_23 (by decide) rfl rfl (fun c2526 => ?_) (fun c2526 => ?_)
        · exact J2523 f2338 m2346 m2466 m2463 _ _ _ hW hF (lv_sub hl [0, 1] rfl)
        · refine lv_aload_n hx hb dX0_tellWrits_26 rfl (lv_at hl 1 rfl) ?_
          refine fg_RX0_21 E hW rh0 dX0_tellWrits_27 (fun a2527 m2528 r2529 => ?_)
          obtain rfl : a2342 = a2527 := (m2463).symm.trans m2528
          refine fg_RX0_188 E hW r2344 dX0_tellWrits_30 (fun a2530 m2531 r2532 => ?_)
          refine lv_iload_n hx hb dX0_tellWrits_33 rfl (lv_at hl 0 rfl) ?_
          refine gl_165 E hW r2532 ⟨by omega, by omega⟩ dX0_tellWrits_34 (fun y2533 m2534 => ?_)
          refine q_if_le (tgt := 79) hx hb dX0_tellWrits_35 (by decide) rfl (fun c2536 => ?_) (fun c2536 => ?_)
          · exact J2523 f2338 m2346 m2466 m2528 _ _ _ hW hF (lv_sub hl [0, 1] rfl)
          · refine lv_aload_n hx hb dX0_tellWrits_38 rfl (lv_at hl 1 rfl) ?_
            refine fg_RX0_28 E hW rh0 dX0_tellWrits_39 (fun a2537 m2538 r2539 => ?_)
            refine lv_iload_n hx hb dX0_tellWrits_42 rfl (lv_at hl 0 rfl) ?_
            refine t_callV (As := [.int y2339]) (rest := []) E hW (c_X10_openOn l G cI cJ cZ cD cR cT kp L f2338 hW.2.2.2 _ a2537 y2339 r2539 (by omega)) r2539 (by decide) rfl wk_X10_openOn tw_1143 rfl ⟨Nat.le_of_ble_eq_true rfl, Nat.le_of_ble_eq_true rfl⟩ ⟨rfl, rfl⟩ hl.1 rfl (Nat.le_of_ble_eq_true rfl) dX0_tellWrits_43 ⟨Nat.le_of_ble_eq_true rfl, Nat.le_of_ble_eq_true rfl⟩ (fun v2540 f2541 H locs q2542 hW => ?_)
            obtain ⟨⟨x2544, rfl, p2545⟩, g2543⟩ := q2542
            have hF := FM.tr hF g2543 rfl
            refine lv_iconst (v := (-1)) hx hb dX0_tellWrits_46 (by decide) ?_
            refine q_icmp_ne (Y := -1) (tgt := 79) hx hb dX0_tellWrits_47 (by decide) rfl rfl (fun c2546 => ?_) (fun c2546 => ?_)
            · exact J2523 f2541 ((fm_I g2543 r2344 rfl).trans m2346) ((fm_R g2543 r2344 rfl).trans m2466) ((fm_R g2543 rh0 rfl).trans m2528) _ _ _ hW hF (lv_sub hl [0, 1] rfl)
            · refine lv_aload_n hx hb dX0_tellWrits_50 rfl (lv_at hl 1 rfl) ?_
              refine fg_RX0_28 E hW rh0 dX0_tellWrits_51 (fun a2547 m2548 r2549 => ?_)
              obtain rfl : a2537 = a2547 := (((fm_R g2543 rh0 rfl).trans m2538)).symm.trans m2548
              refine lv_iload_n hx hb dX0_tellWrits_54 rfl (lv_at hl 0 rfl) ?_
              refine lv_aload_n hx hb dX0_tellWrits_55 rfl (lv_at hl 1 rfl) ?_
              refine fg_RX0_21 E hW rh0 dX0_tellWrits_56 (fun a2550 m2551 r2552 => ?_)
              obtain rfl : a2342 = a2550 := (((fm_R g2543 rh0 rfl).trans m2528)).symm.trans m2551
              refine fg_RX0_124 E hW r2344 dX0_tellWrits_59 (fun a2553 m2554 r2555 => ?_)
              obtain rfl : a2465 = a2553 := (((fm_R g2543 r2344 rfl).trans m2466)).symm.trans m2554
              refine lv_iload_n hx hb dX0_tellWrits_62 rfl (lv_at hl 0 rfl) ?_
              refine gl_164 E hW r2467 ⟨by omega, by omega⟩ dX0_tellWrits_63 (fun y2556 m2557 b2558 => ?_)
              obtain rfl : y2468 = y2556 := (((congrArg (fun z => aI z (y2339 : Int32).toNatClampNeg) (fm_A g2543 r2467 (by decide) rfl)).trans m2469)).symm.trans m2557
              refine lv_aload_n hx hb dX0_tellWrits_64 rfl (lv_at hl 1 rfl) ?_
              refine fg_RX0_42 E hW rh0 dX0_tellWrits_65 (fun a2559 m2560 r2561 => ?_)
              refine lv_iconst (v := 0) hx hb dX0_tellWrits_68 (by decide) ?_
              refine t_callV (As := [.int 0]) (rest := [.int y2468, .int y2339, .ref a2537]) E hW (c_X2_weeksOf l G cI cJ cZ cD cR cT kp L f2541 hW.2.2.2 _ a2559 0 r2561 (by decide)) r2561 (by decide) rfl wk_X2_weeksOf tw_1144 rfl ⟨Nat.le_of_ble_eq_true rfl, Nat.le_of_ble_eq_true rfl⟩ ⟨rfl, rfl⟩ hl.1 rfl (Nat.le_of_ble_eq_true rfl) dX0_tellWrits_69 ⟨Nat.le_of_ble_eq_true rfl, Nat.le_of_ble_eq_true rfl⟩ (fun v2562 f2563 H locs q2564 hW => ?_)
              obtain ⟨⟨x2566, rfl, p2567⟩, g2565⟩ := q2564
              clear p2567
              have hF := FM.tr hF g2565 rfl
              refine lv_aload_n hx hb dX0_tellWrits_72 rfl (lv_at hl 1 rfl) ?_
              refine fg_RX0_93 E hW rh0 dX0_tellWrits_73 (fun y2568 m2569 b2570 => ?_)
              refine t_callV (As := [.int y2339, .int y2468, .int x2566, .int y2568]) (rest := []) E hW (c_X10_add l G cI cJ cZ cD cR cT kp L f2563 hW.2.2.2 _ a2537 y2339 y2468 x2566 y2568 r2539 (by omega) (by omega) (by omega)) r2539 (by decide) rfl wk_X10_add tw_1145 rfl ⟨Nat.le_of_ble_eq_true rfl, Nat.le_of_ble_eq_true rfl⟩ ⟨rfl, rfl⟩ hl.1 rfl (Nat.le_of_ble_eq_true rfl) dX0_tellWrits_76 ⟨Nat.le_of_ble_eq_true rfl, Nat.le_of_ble_eq_true rfl⟩ (fun v2571 f2572 H locs q2573 hW => ?_)
              obtain ⟨rfl, g2574⟩ := q2573
              have hF := FM.tr hF g2574 rfl
              exact J2523 f2572 ((fm_I g2574 r2344 rfl).trans ((fm_I g2565 r2344 rfl).trans ((fm_I g2543 r2344 rfl).trans m2346))) ((fm_R g2574 r2344 rfl).trans ((fm_R g2565 r2344 rfl).trans m2554)) ((fm_R g2574 rh0 rfl).trans ((fm_R g2565 rh0 rfl).trans m2551)) _ _ _ hW hF (lv_sub hl [0, 1] rfl)
  have hk2575 : (0 : Int32).toInt = 0 := rfl
  exact L2341 41 f0 0 (by decide) (by omega) _ _ _ hW hF (lv_sub hl [0, 1] rfl)
def ms_X0_passWeek : List (Nat × Nat) := [(0, 6), (0, 12), (0, 13), (0, 14), (3, 0), (10, 0), (115, 0), (164, 0), (165, 0), (166, 0), (167, 0), (169, 0), (171, 0), (222, 0), (223, 0), (342, 0), (345, 0), (346, 0), (347, 0), (348, 0), (349, 0), (701, 0), (702, 0), (703, 0), (704, 0), (705, 0), (706, 0)]
def po_X0_passWeek (kp : Nat → Nat) (L : List Nat) (f0 : Nat → va_E) (h0 : Nat) : Option Value → (Nat → va_E) → Prop := fun v f => v = none ∧ FM kp L ms_X0_passWeek f0 f
set_option maxHeartbeats 4000000 in
set_option maxRecDepth 100000 in
theorem c_X0_passWeek (l : Launch) (G : va_G) (cI cJ cZ cD cR cT : ClassId) (kp : Nat → Nat) (L : List Nat) (f0 : Nat → va_E) (hTH : TH cI cJ cZ cD cR cT kp L f0) (sz : Nat) (h0 : Nat) (rh0 : RK kp L h0 0) : Met l yX0_passWeek (Cond.code yX0_passWeek cX0_passWeek 2 none :: wTab) ({ frames := 6, cells := 0, slots := 0, locals := 170 }) (va_Pc [.ref h0] (PreW G (tys6 cI cJ cZ cD cR cT) (va_pl L f0) sz)) (QT (po_X0_passWeek kp L f0 h0) G cI cJ cZ cD cR cT (va_A (va_pl L f0) sz) kp L) 0 0 (va_A (va_pl L f0) sz) := by
  refine metT (by decide) (Nat.le_of_ble_eq_true rfl) hTH ?_
  intro p e s m below meth c A ls E hW hl
  obtain ⟨hx, hb, -, hml, hown, hts, -, -, -⟩ := id E
  have hF : FM kp L ms_X0_passWeek f0 f0 := FM.rf
  have hl : lv_has ls 2 [(0, .ref h0)] := hl
  refine lv_aload_n hx hb dX0_passWeek_0 rfl (lv_at hl 0 rfl) ?_
  refine fg_RX0_93 E hW rh0 dX0_passWeek_1 (fun y1 m2 b3 => ?_)
  refine lv_sipush (v := 399) hx hb dX0_passWeek_4 (by decide) ?_
  refine q_icmp_lt (Y := 399) (tgt := 11) hx hb dX0_passWeek_7 (by decide) rfl rfl (fun c4 => ?_) (fun c4 => ?_)
  · refine lv_aload_n hx hb dX0_passWeek_11 rfl (lv_at hl 0 rfl) ?_
    refine t_callV (As := []) (rest := []) E hW (c_X0_lookAtNow l G cI cJ cZ cD cR cT kp L f0 hW.2.2.2 _ h0 rh0) rh0 (by decide) rfl wk_X0_lookAtNow tw_1118 rfl ⟨Nat.le_of_ble_eq_true rfl, Nat.le_of_ble_eq_true rfl⟩ ⟨rfl, rfl⟩ hl.1 rfl (Nat.le_of_ble_eq_true rfl) dX0_passWeek_12 ⟨Nat.le_of_ble_eq_true rfl, Nat.le_of_ble_eq_true rfl⟩ (fun v5 f6 H locs q7 hW => ?_)
    obtain ⟨rfl, g8⟩ := q7
    have hF := FM.tr hF g8 rfl
    refine lv_aload_n hx hb dX0_passWeek_15 rfl (lv_at hl 0 rfl) ?_
    refine t_callV (As := []) (rest := []) E hW (c_X0_reap l G cI cJ cZ cD cR cT kp L f6 hW.2.2.2 _ h0 rh0) rh0 (by decide) rfl wk_X0_reap tw_1119 rfl ⟨Nat.le_of_ble_eq_true rfl, Nat.le_of_ble_eq_true rfl⟩ ⟨rfl, rfl⟩ hl.1 rfl (Nat.le_of_ble_eq_true rfl) dX0_passWeek_16 ⟨Nat.le_of_ble_eq_true rfl, Nat.le_of_ble_eq_true rfl⟩ (fun v9 f10 H locs q11 hW => ?_)
    obtain ⟨rfl, g12⟩ := q11
    have hF := FM.tr hF g12 rfl
    refine lv_aload_n hx hb dX0_passWeek_19 rfl (lv_at hl 0 rfl) ?_
    refine fg_RX0_93 E hW rh0 dX0_passWeek_20 (fun y13 m14 b15 => ?_)
    obtain rfl : y1 = y13 := (((fm_I g12 rh0 rfl).trans ((fm_I g8 rh0 rfl).trans m2))).symm.trans m14
    have J40 : ∀ (f38 : Nat → va_E) (m39 : oI (f38 h0) 6 = y1) (H : Heap) (locs : List Loc) (ls : Array Slot), WS G cI cJ cZ cD cR cT A kp L f38 s H locs → FM kp L ms_X0_passWeek f0 f38 → lv_has ls 2 [(0, .ref h0)] → W p l e ({ frames := 6, cells := 0, slots := 0, locals := 170 }) s m ([.ref h0] : List Value).toArray below meth c H locs 0 0 (MQ below (QT (po_X0_passWeek kp L f0 h0) G cI cJ cZ cD cR cT A kp L) ([.ref h0] : List Value).toArray s 0 0 A) (F0 m 55 ls []) := by
      intro f38 m39 H locs ls hW hF hl
      refine lv_iconst (v := 0) hx hb dX0_passWeek_55 (by decide) ?_
      refine lv_istore_n (lv' := [(1, .int 0), (0, .ref h0)]) hx hb dX0_passWeek_56 rfl hl (by decide) rfl (fun ls hl => ?_)
      have L970 : ∀ (n : Nat), ∀ (f966 : Nat → va_E) (y968 : Int32) (m967 : oI (f966 h0) 6 = y1) (b969 : (0 : Int) ≤ y968.toInt ∧ y968.toInt ≤ 60) (hm : (61 : Int) - y968.toInt ≤ n) (H : Heap) (locs : List Loc) (ls : Array Slot), WS G cI cJ cZ cD cR cT A kp L f966 s H locs → FM kp L ms_X0_passWeek f0 f966 → lv_has ls 2 [(1, .int y968), (0, .ref h0)] → W p l e ({ frames := 6, cells := 0, slots := 0, locals := 170 }) s m ([.ref h0] : List Value).toArray below meth c H locs 0 0 (MQ below (QT (po_X0_passWeek kp L f0 h0) G cI cJ cZ cD cR cT A kp L) ([.ref h0] : List Value).toArray s 0 0 A) (F0 m 57 ls []) := by
        intro n
        induction n with
        | zero =>
          intro f966 y968 m967 b969 hm H locs ls hW hF hl
          have hz := i32_b y968
          exfalso; omega
        | succ n ih =>
          intro f966 y968 m967 b969 hm H locs ls hW hF hl
          have ih57 := ih
          refine lv_iload_n hx hb dX0_passWeek_57 rfl (lv_at hl 0 rfl) ?_
          refine lv_aload_n hx hb dX0_passWeek_58 rfl (lv_at hl 1 rfl) ?_
          refine fg_RX0_28 E hW rh0 dX0_passWeek_59 (fun a971 m972 r973 => ?_)
          refine fg_RX0_148 E hW r973 dX0_passWeek_62 (fun y974 m975 b976 => ?_)
          refine q_icmp_ge (tgt := 92) hx hb dX0_passWeek_65 (by decide) rfl rfl (fun c1003 => ?_) (fun c1003 => ?_)
          · refine lv_aload_n hx hb dX0_passWeek_92 rfl (lv_at hl 1 rfl) ?_
            refine t_callV (As := []) (rest := []) E hW (c_X0_payDraws l G cI cJ cZ cD cR cT kp L f966 hW.2.2.2 _ h0 rh0) rh0 (by decide) rfl wk_X0_payDraws tw_1158 rfl ⟨Nat.le_of_ble_eq_true rfl, Nat.le_of_ble_eq_true rfl⟩ ⟨rfl, rfl⟩ hl.1 rfl (Nat.le_of_ble_eq_true rfl) dX0_passWeek_93 ⟨Nat.le_of_ble_eq_true rfl, Nat.le_of_ble_eq_true rfl⟩ (fun v1004 f1005 H locs q1006 hW => ?_)
            obtain ⟨rfl, g1007⟩ := q1006
            have hF := FM.tr hF g1007 rfl
            refine lv_aload_n hx hb dX0_passWeek_96 rfl (lv_at hl 1 rfl) ?_
            refine fg_RX0_64 E hW rh0 dX0_passWeek_97 (fun y1008 m1009 b1010 => ?_)
            have J1034 : ∀ (f1029 : Nat → va_E) (m1030 : oI (f1029 a971) 0 = y974) (m1031 : oR (f1029 h0) 2 = a971) (m1032 : oI (f1029 h0) 6 = y1) (m1033 : oI (f1029 h0) 7 = y1008) (H : Heap) (locs : List Loc) (ls : Array Slot), WS G cI cJ cZ cD cR cT A kp L f1029 s H locs → FM kp L ms_X0_passWeek f0 f1029 → lv_has ls 2 [(1, .int y968), (0, .ref h0)] → W p l e ({ frames := 6, cells := 0, slots := 0, locals := 170 }) s m ([.ref h0] : List Value).toArray below meth c H locs 0 0 (MQ below (QT (po_X0_passWeek kp L f0 h0) G cI cJ cZ cD cR cT A kp L) ([.ref h0] : List Value).toArray s 0 0 A) (F0 m 117 ls []) := by
              intro f1029 m1030 m1031 m1032 m1033 H locs ls hW hF hl
              refine lv_aload_n hx hb dX0_passWeek_117 rfl (lv_at hl 1 rfl) ?_
              refine lv_dup hx hb dX0_passWeek_118 rfl ?_
              refine fg_RX0_93 E hW rh0 dX0_passWeek_119 (fun y1035 m1036 b1037 => ?_)
              obtain rfl : y1 = y1035 := (m1032).symm.trans m1036
              refine lv_iconst (v := 1) hx hb dX0_passWeek_122 (by decide) ?_
              refine q_iadd (Y := 1) hx hb dX0_passWeek_123 rfl rfl (by omega) (fun x1038 h1039 => ?_)
              refine fp_RX0_93 E hW rh0 (by omega) dX0_passWeek_124 (fun f1040 H locs e1041 n1042 g1043 hW => ?_)
              have hF := FM.tr hF g1043 rfl
              exact e_V E hW rfl ⟨rfl, hF⟩ dX0_passWeek_127
            refine q_if_eq (tgt := 113) hx hb dX0_passWeek_100 (by decide) rfl (fun c1044 => ?_) (fun c1044 => ?_)
            · refine lv_aload_n hx hb dX0_passWeek_113 rfl (lv_at hl 1 rfl) ?_
              refine t_callV (As := []) (rest := []) E hW (c_X0_renewBans l G cI cJ cZ cD cR cT kp L f1005 hW.2.2.2 _ h0 rh0) rh0 (by decide) rfl wk_X0_renewBans tw_1171 rfl ⟨Nat.le_of_ble_eq_true rfl, Nat.le_of_ble_eq_true rfl⟩ ⟨rfl, rfl⟩ hl.1 rfl (Nat.le_of_ble_eq_true rfl) dX0_passWeek_114 ⟨Nat.le_of_ble_eq_true rfl, Nat.le_of_ble_eq_true rfl⟩ (fun v1045 f1046 H locs q1047 hW => ?_)
              obtain ⟨rfl, g1048⟩ := q1047
              have hF := FM.tr hF g1048 rfl
              exact J1034 f1046 ((fm_I g1048 r973 rfl).trans ((fm_I g1007 r973 rfl).trans m975)) ((fm_R g1048 rh0 rfl).trans ((fm_R g1007 rh0 rfl).trans m972)) ((fm_I g1048 rh0 rfl).trans ((fm_I g1007 rh0 rfl).trans m967)) ((fm_I g1048 rh0 rfl).trans m1009) _ _ _ hW hF (lv_sub hl [0, 1] rfl)
            · refine lv_aload_n hx hb dX0_passWeek_103 rfl (lv_at hl 1 rfl) ?_
              refine fg_RX0_42 E hW rh0 dX0_passWeek_104 (fun a1049 m1050 r1051 => ?_)
              refine t_callV (As := []) (rest := []) E hW (c_X2_asksBanned l G cI cJ cZ cD cR cT kp L f1005 hW.2.2.2 _ a1049 r1051) r1051 (by decide) rfl wk_X2_asksBanned tw_1167 rfl ⟨Nat.le_of_ble_eq_true rfl, Nat.le_of_ble_eq_true rfl⟩ ⟨rfl, rfl⟩ hl.1 rfl (Nat.le_of_ble_eq_true rfl) dX0_passWeek_107 ⟨Nat.le_of_ble_eq_true rfl, Nat.le_of_ble_eq_true rfl⟩ (fun v1052 f1053 H locs q1054 hW => ?_)
              obtain ⟨⟨x1056, rfl, p1057⟩, g1055⟩ := q1054
              have hF := FM.tr hF g1055 rfl
              refine q_if_eq (tgt := 117) hx hb dX0_passWeek_110 (by decide) rfl (fun c1058 => ?_) (fun c1058 => ?_)
              · exact J1034 f1053 ((fm_I g1055 r973 rfl).trans ((fm_I g1007 r973 rfl).trans m975)) ((fm_R g1055 rh0 rfl).trans ((fm_R g1007 rh0 rfl).trans m972)) ((fm_I g1055 rh0 rfl).trans ((fm_I g1007 rh0 rfl).trans m967)) ((fm_I g1055 rh0 rfl).trans m1009) _ _ _ hW hF (lv_sub hl [0, 1] rfl)
              · refine lv_aload_n hx hb dX0_passWeek_113 rfl (lv_at hl 1 rfl) ?_
                refine t_callV (As := []) (rest := []) E hW (c_X0_renewBans l G cI cJ cZ cD cR cT kp L f1053 hW.2.2.2 _ h0 rh0) rh0 (by decide) rfl wk_X0_renewBans tw_1171 rfl ⟨Nat.le_of_ble_eq_true rfl, Nat.le_of_ble_eq_true rfl⟩ ⟨rfl, rfl⟩ hl.1 rfl (Nat.le_of_ble_eq_true rfl) dX0_passWeek_114 ⟨Nat.le_of_ble_eq_true rfl, Nat.le_of_ble_eq_true rfl⟩ (fun v1059 f1060 H locs q1061 hW => ?_)
                obtain ⟨rfl, g1062⟩ := q1061
                have hF := FM.tr hF g1062 rfl
                exact J1034 f1060 ((fm_I g1062 r973 rfl).trans ((fm_I g1055 r973 rfl).trans ((fm_I g1007 r973 rfl).trans m975))) ((fm_R g1062 rh0 rfl).trans ((fm_R g1055 rh0 rfl).trans ((fm_R g1007 rh0 rfl).trans m972))) ((fm_I g1062 rh0 rfl).trans ((fm_I g1055 rh0 rfl).trans ((fm_I g1007 rh0 rfl).trans m967))) ((fm_I g1062 rh0 rfl).trans ((fm_I g1055 rh0 rfl).trans m1009)) _ _ _ hW hF (lv_sub hl [0, 1] rfl)
          · refine lv_aload_n hx hb dX0_passWeek_68 rfl (lv_at hl 1 rfl) ?_
            refine fg_RX0_28 E hW rh0 dX0_passWeek_69 (fun a1063 m1064 r1065 => ?_)
            obtain rfl : a971 = a1063 := (m972).symm.trans m1064
            refine fg_RX0_151 E hW r973 dX0_passWeek_72 (fun a1066 m1067 r1068 => ?_)
            refine lv_iload_n hx hb dX0_passWeek_75 rfl (lv_at hl 0 rfl) ?_
            refine gl_706 E hW r1068 ⟨by omega, by omega⟩ dX0_passWeek_76 (fun y1069 m1070 => ?_)
            refine lv_iconst (v := 1) hx hb dX0_passWeek_77 (by decide) ?_
            have J1081 : ∀ (f1076 : Nat → va_E) (m1077 : oI (f1076 a971) 0 = y974) (m1078 : oR (f1076 a971) 6 = a1066) (m1079 : oR (f1076 h0) 2 = a971) (m1080 : oI (f1076 h0) 6 = y1) (H : Heap) (locs : List Loc) (ls : Array Slot), WS G cI cJ cZ cD cR cT A kp L f1076 s H locs → FM kp L ms_X0_passWeek f0 f1076 → lv_has ls 2 [(1, .int y968), (0, .ref h0)] → W p l e ({ frames := 6, cells := 0, slots := 0, locals := 170 }) s m ([.ref h0] : List Value).toArray below meth c H locs 0 0 (MQ below (QT (po_X0_passWeek kp L f0 h0) G cI cJ cZ cD cR cT A kp L) ([.ref h0] : List Value).toArray s 0 0 A) (F0 m 86 ls []) := by
              intro f1076 m1077 m1078 m1079 m1080 H locs ls hW hF hl
              refine q_iinc hx hb dX0_passWeek_86 hl (k := 0) rfl rfl rfl (by omega) (by decide) (fun i1082 ls h1083 hl => ?_)
              have hl : lv_has ls 2 [(1, .int i1082), (0, .ref h0)] := hl
              refine lv_goto (tgt := 57) hx hb dX0_passWeek_89 (by decide) ?_
              exact ih57 f1076 i1082 m1080 (by omega) (by omega) _ _ _ hW hF (lv_sub hl [0, 1] rfl)
            refine q_icmp_ne (Y := 1) (tgt := 86) hx hb dX0_passWeek_78 (by decide) rfl rfl (fun c1084 => ?_) (fun c1084 => ?_)
            · exact J1081 f966 m975 m1067 m1064 m967 _ _ _ hW hF (lv_sub hl [0, 1] rfl)
            · refine lv_aload_n hx hb dX0_passWeek_81 rfl (lv_at hl 1 rfl) ?_
              refine lv_iload_n hx hb dX0_passWeek_82 rfl (lv_at hl 0 rfl) ?_
              refine t_callV (As := [.int y968]) (rest := []) E hW (c_X0_advanceWrit l G cI cJ cZ cD cR cT kp L f966 hW.2.2.2 _ h0 y968 rh0 (by omega)) rh0 (by decide) rfl wk_X0_advanceWrit tw_1146 rfl ⟨Nat.le_of_ble_eq_true rfl, Nat.le_of_ble_eq_true rfl⟩ ⟨rfl, rfl⟩ hl.1 rfl (Nat.le_of_ble_eq_true rfl) dX0_passWeek_83 ⟨Nat.le_of_ble_eq_true rfl, Nat.le_of_ble_eq_true rfl⟩ (fun v1085 f1086 H locs q1087 hW => ?_)
              obtain ⟨rfl, g1088⟩ := q1087
              have hF := FM.tr hF g1088 rfl
              exact J1081 f1086 ((fm_I g1088 r973 rfl).trans m975) ((fm_R g1088 r973 rfl).trans m1067) ((fm_R g1088 rh0 rfl).trans m1064) ((fm_I g1088 rh0 rfl).trans m967) _ _ _ hW hF (lv_sub hl [0, 1] rfl)
      have hk1089 : (0 : Int32).toInt = 0 := rfl
      exact L970 61 f38 0 m39 (by decide) (by omega) _ _ _ hW hF (lv_sub hl [0, 1] rfl)
    refine q_if_eq (tgt := 55) hx hb dX0_passWeek_23 (by decide) rfl (fun c1090 => ?_) (fun c1090 => ?_)
    · exact J40 f10 m14 _ _ _ hW hF (lv_sub hl [0] rfl)
    · refine lv_aload_n hx hb dX0_passWeek_26 rfl (lv_at hl 0 rfl) ?_
      refine fg_RX0_93 E hW rh0 dX0_passWeek_27 (fun y1091 m1092 b1093 => ?_)
      obtain rfl : y1 = y1091 := (m14).symm.trans m1092
      refine lv_bipush (v := 13) hx hb dX0_passWeek_30 (by decide) ?_
      refine q_irem (Y := 13) hx hb dX0_passWeek_32 rfl rfl (by omega) (by omega) (fun x1094 h1095 => ?_)
      refine q_if_ne (tgt := 55) hx hb dX0_passWeek_33 (by decide) rfl (fun c1096 => ?_) (fun c1096 => ?_)
      · exact J40 f10 m1092 _ _ _ hW hF (lv_sub hl [0] rfl)
      · refine lv_aload_n hx hb dX0_passWeek_36 rfl (lv_at hl 0 rfl) ?_
        refine t_callV (As := []) (rest := []) E hW (c_X0_collectRents l G cI cJ cZ cD cR cT kp L f10 hW.2.2.2 _ h0 rh0) rh0 (by decide) rfl wk_X0_collectRents tw_1124 rfl ⟨Nat.le_of_ble_eq_true rfl, Nat.le_of_ble_eq_true rfl⟩ ⟨rfl, rfl⟩ hl.1 rfl (Nat.le_of_ble_eq_true rfl) dX0_passWeek_37 ⟨Nat.le_of_ble_eq_true rfl, Nat.le_of_ble_eq_true rfl⟩ (fun v1097 f1098 H locs q1099 hW => ?_)
        obtain ⟨rfl, g1100⟩ := q1099
        have hF := FM.tr hF g1100 rfl
        refine lv_aload_n hx hb dX0_passWeek_40 rfl (lv_at hl 0 rfl) ?_
        refine t_callV (As := []) (rest := []) E hW (c_X0_payMortgages l G cI cJ cZ cD cR cT kp L f1098 hW.2.2.2 _ h0 rh0) rh0 (by decide) rfl wk_X0_payMortgages tw_1135 rfl ⟨Nat.le_of_ble_eq_true rfl, Nat.le_of_ble_eq_true rfl⟩ ⟨rfl, rfl⟩ hl.1 rfl (Nat.le_of_ble_eq_true rfl) dX0_passWeek_41 ⟨Nat.le_of_ble_eq_true rfl, Nat.le_of_ble_eq_true rfl⟩ (fun v1101 f1102 H locs q1103 hW => ?_)
        obtain ⟨rfl, g1104⟩ := q1103
        have hF := FM.tr hF g1104 rfl
        refine lv_aload_n hx hb dX0_passWeek_44 rfl (lv_at hl 0 rfl) ?_
        refine fg_RX0_97 E hW rh0 dX0_passWeek_45 (fun y1105 m1106 b1107 => ?_)
        refine q_if_eq (tgt := 55) hx hb dX0_passWeek_48 (by decide) rfl (fun c1108 => ?_) (fun c1108 => ?_)
        · exact J40 f1102 ((fm_I g1104 rh0 rfl).trans ((fm_I g1100 rh0 rfl).trans m1092)) _ _ _ hW hF (lv_sub hl [0] rfl)
        · refine lv_aload_n hx hb dX0_passWeek_51 rfl (lv_at hl 0 rfl) ?_
          refine t_callV (As := []) (rest := []) E hW (c_X0_tellWrits l G cI cJ cZ cD cR cT kp L f1102 hW.2.2.2 _ h0 rh0) rh0 (by decide) rfl wk_X0_tellWrits tw_1139 rfl ⟨Nat.le_of_ble_eq_true rfl, Nat.le_of_ble_eq_true rfl⟩ ⟨rfl, rfl⟩ hl.1 rfl (Nat.le_of_ble_eq_true rfl) dX0_passWeek_52 ⟨Nat.le_of_ble_eq_true rfl, Nat.le_of_ble_eq_true rfl⟩ (fun v1109 f1110 H locs q1111 hW => ?_)
          obtain ⟨rfl, g1112⟩ := q1111
          have hF := FM.tr hF g1112 rfl
          exact J40 f1110 ((fm_I g1112 rh0 rfl).trans ((fm_I g1104 rh0 rfl).trans ((fm_I g1100 rh0 rfl).trans m1092))) _ _ _ hW hF (lv_sub hl [0] rfl)
  · exact e_V E hW rfl ⟨rfl, hF⟩ dX0_passWeek_10
def ms_X0_settle : List (Nat × Nat) := [(164, 0), (166, 0), (347, 0)]
def po_X0_settle (kp : Nat → Nat) (L : List Nat) (f0 : Nat → va_E) (h0 : Nat) (u1 : Int32) (u2 : Int32) (u3 : Int32) : Option Value → (Nat → va_E) → Prop := fun v f => v = none ∧ FM kp L ms_X0_settle f0 f
set_option maxHeartbeats 4000000 in
set_option maxRecDepth 100000 in
theorem c_X0_settle (l : Launch) (G : va_G) (cI cJ cZ cD cR cT : ClassId) (kp : Nat → Nat) (L : List Nat) (f0 : Nat → va_E) (hTH : TH cI cJ cZ cD cR cT kp L f0) (sz : Nat) (h0 : Nat) (u1 : Int32) (u2 : Int32) (u3 : Int32) (rh0 : RK kp L h0 0) (pu1 : (0 : Int) ≤ u1.toInt ∧ u1.toInt ≤ 39) (pu2 : (0 : Int) ≤ u2.toInt ∧ u2.toInt ≤ 39) (pu3 : (0 : Int) ≤ u3.toInt ∧ u3.toInt ≤ 1) : Met l yX0_settle (Cond.code yX0_settle cX0_settle 4 none :: wTab) ({ frames := 1, cells := 0, slots := 0, locals := 40 }) (va_Pc [.ref h0, .int u1, .int u2, .int u3] (PreW G (tys6 cI cJ cZ cD cR cT) (va_pl L f0) sz)) (QT (po_X0_settle kp L f0 h0 u1 u2 u3) G cI cJ cZ cD cR cT (va_A (va_pl L f0) sz) kp L) 0 0 (va_A (va_pl L f0) sz) := by
  refine metT (by decide) (Nat.le_of_ble_eq_true rfl) hTH ?_
  intro p e s m below meth c A ls E hW hl
  obtain ⟨hx, hb, -, hml, hown, hts, -, -, -⟩ := id E
  have hF : FM kp L ms_X0_settle f0 f0 := FM.rf
  have hl : lv_has ls 4 [(0, .ref h0), (1, .int u1), (2, .int u2), (3, .int u3)] := hl
  refine lv_aload_n hx hb dX0_settle_0 rfl (lv_at hl 0 rfl) ?_
  refine fg_RX0_21 E hW rh0 dX0_settle_1 (fun a1 m2 r3 => ?_)
  refine fg_RX0_124 E hW r3 dX0_settle_4 (fun a4 m5 r6 => ?_)
  refine lv_iload_n hx hb dX0_settle_7 rfl (lv_at hl 2 rfl) ?_
  refine lv_iload_n hx hb dX0_settle_8 rfl (lv_at hl 1 rfl) ?_
  refine gs_164 E hW r6 ⟨by omega, by omega⟩ (by omega) dX0_settle_9 (fun f7 H locs e8 n9 g10 hW => ?_)
  have hF := FM.tr hF g10 rfl
  refine lv_aload_n hx hb dX0_settle_10 rfl (lv_at hl 0 rfl) ?_
  refine fg_RX0_21 E hW rh0 dX0_settle_11 (fun a11 m12 r13 => ?_)
  obtain rfl : a1 = a11 := (((fm_R g10 rh0 rfl).trans m2)).symm.trans m12
  refine fg_RX0_127 E hW r3 dX0_settle_14 (fun a14 m15 r16 => ?_)
  refine lv_iload_n hx hb dX0_settle_17 rfl (lv_at hl 2 rfl) ?_
  refine lv_iload_n hx hb dX0_settle_18 rfl (lv_at hl 3 rfl) ?_
  refine gs_166 E hW r16 ⟨by omega, by omega⟩ dX0_settle_19 (fun f17 H locs e18 n19 g20 hW => ?_)
  have hF := FM.tr hF g20 rfl
  refine lv_aload_n hx hb dX0_settle_20 rfl (lv_at hl 0 rfl) ?_
  refine fg_RX0_12 E hW rh0 dX0_settle_21 (fun a21 m22 r23 => ?_)
  refine fg_RX0_130 E hW r23 dX0_settle_24 (fun a24 m25 r26 => ?_)
  refine lv_iload_n hx hb dX0_settle_27 rfl (lv_at hl 1 rfl) ?_
  refine lv_iconst (v := (-1)) hx hb dX0_settle_28 (by decide) ?_
  refine gs_347 E hW r26 ⟨by omega, by omega⟩ dX0_settle_29 (fun f27 H locs e28 n29 g30 hW => ?_)
  have hF := FM.tr hF g30 rfl
  exact e_V E hW rfl ⟨rfl, hF⟩ dX0_settle_30
def ms_X0_tellCrops : List (Nat × Nat) := [(0, 9), (0, 10), (0, 11)]
def po_X0_tellCrops (kp : Nat → Nat) (L : List Nat) (f0 : Nat → va_E) (h0 : Nat) (u1 : Int32) (u2 : Int32) : Option Value → (Nat → va_E) → Prop := fun v f => v = none ∧ FM kp L ms_X0_tellCrops f0 f
set_option maxHeartbeats 4000000 in
set_option maxRecDepth 100000 in
theorem c_X0_tellCrops (l : Launch) (G : va_G) (cI cJ cZ cD cR cT : ClassId) (kp : Nat → Nat) (L : List Nat) (f0 : Nat → va_E) (hTH : TH cI cJ cZ cD cR cT kp L f0) (sz : Nat) (h0 : Nat) (u1 : Int32) (u2 : Int32) (rh0 : RK kp L h0 0) : Met l yX0_tellCrops (Cond.code yX0_tellCrops cX0_tellCrops 3 none :: wTab) ({ frames := 1, cells := 0, slots := 0, locals := 40 }) (va_Pc [.ref h0, .int u1, .int u2] (PreW G (tys6 cI cJ cZ cD cR cT) (va_pl L f0) sz)) (QT (po_X0_tellCrops kp L f0 h0 u1 u2) G cI cJ cZ cD cR cT (va_A (va_pl L f0) sz) kp L) 0 0 (va_A (va_pl L f0) sz) := by
  refine metT (by decide) (Nat.le_of_ble_eq_true rfl) hTH ?_
  intro p e s m below meth c A ls E hW hl
  obtain ⟨hx, hb, -, hml, hown, hts, -, -, -⟩ := id E
  have hF : FM kp L ms_X0_tellCrops f0 f0 := FM.rf
  have hl : lv_has ls 3 [(0, .ref h0), (1, .int u1), (2, .int u2)] := hl
  refine lv_aload_n hx hb dX0_tellCrops_0 rfl (lv_at hl 0 rfl) ?_
  refine lv_iconst (v := 1) hx hb dX0_tellCrops_1 (by decide) ?_
  refine fp_RX0_97 E hW rh0 (by decide) dX0_tellCrops_2 (fun f1 H locs e2 n3 g4 hW => ?_)
  have hF := FM.tr hF g4 rfl
  refine lv_aload_n hx hb dX0_tellCrops_5 rfl (lv_at hl 0 rfl) ?_
  refine lv_iload_n hx hb dX0_tellCrops_6 rfl (lv_at hl 1 rfl) ?_
  refine fp_RX0_107 E hW rh0 dX0_tellCrops_7 (fun f5 H locs e6 n7 g8 hW => ?_)
  have hF := FM.tr hF g8 rfl
  refine lv_aload_n hx hb dX0_tellCrops_10 rfl (lv_at hl 0 rfl) ?_
  refine lv_iload_n hx hb dX0_tellCrops_11 rfl (lv_at hl 2 rfl) ?_
  refine fp_RX0_110 E hW rh0 dX0_tellCrops_12 (fun f9 H locs e10 n11 g12 hW => ?_)
  have hF := FM.tr hF g12 rfl
  exact e_V E hW rfl ⟨rfl, hF⟩ dX0_tellCrops_15
