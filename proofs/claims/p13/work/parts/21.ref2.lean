theorem dX12_in_0 : decode cX12_in 0 = .ok (.lload_n 0, 1) := by decide +kernel
theorem dX12_in_1 : decode cX12_in 1 = .ok (.lload_n 2, 1) := by decide +kernel
theorem dX12_in_2 : decode cX12_in 2 = .ok (.lcmp, 1) := by decide +kernel
theorem dX12_in_3 : decode cX12_in 3 = .ok (.ifCond .lt 14, 3) := by decide +kernel
theorem dX12_in_17 : decode cX12_in 17 = .ok (.iconst 0, 1) := by decide +kernel
theorem dX12_in_18 : decode cX12_in 18 = .ok (.ireturn, 1) := by decide +kernel
theorem dX12_in_6 : decode cX12_in 6 = .ok (.lload_n 0, 1) := by decide +kernel
theorem dX12_in_7 : decode cX12_in 7 = .ok (.lload 4, 2) := by decide +kernel
theorem dX12_in_9 : decode cX12_in 9 = .ok (.lcmp, 1) := by decide +kernel
theorem dX12_in_10 : decode cX12_in 10 = .ok (.ifCond .gt 7, 3) := by decide +kernel
theorem dX12_in_13 : decode cX12_in 13 = .ok (.iconst 1, 1) := by decide +kernel
theorem dX12_in_14 : decode cX12_in 14 = .ok (.goto 4, 3) := by decide +kernel
theorem dX12_told_0 : decode cX12_told 0 = .ok (.aload_n 0, 1) := by decide +kernel
theorem dX12_told_1 : decode cX12_told 1 = .ok (.iload_n 1, 1) := by decide +kernel
theorem dX12_told_2 : decode cX12_told 2 = .ok (.ifCond .ge 7, 3) := by decide +kernel
theorem dX12_told_10 : decode cX12_told 10 = .ok (.putfield 85, 3) := by decide +kernel
theorem dX12_told_13 : decode cX12_told 13 = .ok (.iload_n 1, 1) := by decide +kernel
theorem dX12_told_14 : decode cX12_told 14 = .ok (.ireturn, 1) := by decide +kernel
theorem dX12_told_9 : decode cX12_told 9 = .ok (.iconst 0, 1) := by decide +kernel
theorem dX12_told_5 : decode cX12_told 5 = .ok (.iload_n 1, 1) := by decide +kernel
theorem dX12_told_6 : decode cX12_told 6 = .ok (.goto 4, 3) := by decide +kernel
theorem dX12_isWeek_0 : decode cX12_isWeek 0 = .ok (.iload_n 0, 1) := by decide +kernel
theorem dX12_isWeek_1 : decode cX12_isWeek 1 = .ok (.i2l, 1) := by decide +kernel
theorem dX12_isWeek_2 : decode cX12_isWeek 2 = .ok (.lconst 0, 1) := by decide +kernel
theorem dX12_isWeek_3 : decode cX12_isWeek 3 = .ok (.ldc2_w 88, 3) := by decide +kernel
theorem dX12_isWeek_6 : decode cX12_isWeek 6 = .ok (.invokestatic 90, 3) := by decide +kernel
theorem dX12_isWeek_9 : decode cX12_isWeek 9 = .ok (.ireturn, 1) := by decide +kernel
theorem dX12_isPerson_0 : decode cX12_isPerson 0 = .ok (.iload_n 1, 1) := by decide +kernel
theorem dX12_isPerson_1 : decode cX12_isPerson 1 = .ok (.i2l, 1) := by decide +kernel
theorem dX12_isPerson_2 : decode cX12_isPerson 2 = .ok (.lconst 0, 1) := by decide +kernel
theorem dX12_isPerson_3 : decode cX12_isPerson 3 = .ok (.aload_n 0, 1) := by decide +kernel
theorem dX12_isPerson_4 : decode cX12_isPerson 4 = .ok (.getfield 8, 3) := by decide +kernel
theorem dX12_isPerson_7 : decode cX12_isPerson 7 = .ok (.iconst 0, 1) := by decide +kernel
theorem dX12_isPerson_8 : decode cX12_isPerson 8 = .ok (.iaload, 1) := by decide +kernel
theorem dX12_isPerson_9 : decode cX12_isPerson 9 = .ok (.i2l, 1) := by decide +kernel
theorem dX12_isPerson_10 : decode cX12_isPerson 10 = .ok (.lconst 1, 1) := by decide +kernel
theorem dX12_isPerson_11 : decode cX12_isPerson 11 = .ok (.lsub, 1) := by decide +kernel
theorem dX12_isPerson_12 : decode cX12_isPerson 12 = .ok (.invokestatic 90, 3) := by decide +kernel
theorem dX12_isPerson_15 : decode cX12_isPerson 15 = .ok (.ireturn, 1) := by decide +kernel
theorem dX12_isField_0 : decode cX12_isField 0 = .ok (.iload_n 1, 1) := by decide +kernel
theorem dX12_isField_1 : decode cX12_isField 1 = .ok (.i2l, 1) := by decide +kernel
theorem dX12_isField_2 : decode cX12_isField 2 = .ok (.lconst 0, 1) := by decide +kernel
theorem dX12_isField_3 : decode cX12_isField 3 = .ok (.aload_n 0, 1) := by decide +kernel
theorem dX12_isField_4 : decode cX12_isField 4 = .ok (.getfield 8, 3) := by decide +kernel
theorem dX12_isField_7 : decode cX12_isField 7 = .ok (.iconst 2, 1) := by decide +kernel
theorem dX12_isField_8 : decode cX12_isField 8 = .ok (.iaload, 1) := by decide +kernel
theorem dX12_isField_9 : decode cX12_isField 9 = .ok (.i2l, 1) := by decide +kernel
theorem dX12_isField_10 : decode cX12_isField 10 = .ok (.lconst 1, 1) := by decide +kernel
theorem dX12_isField_11 : decode cX12_isField 11 = .ok (.lsub, 1) := by decide +kernel
theorem dX12_isField_12 : decode cX12_isField 12 = .ok (.invokestatic 90, 3) := by decide +kernel
theorem dX12_isField_15 : decode cX12_isField 15 = .ok (.ireturn, 1) := by decide +kernel
theorem dX12_isEstate_0 : decode cX12_isEstate 0 = .ok (.iload_n 1, 1) := by decide +kernel
theorem dX12_isEstate_1 : decode cX12_isEstate 1 = .ok (.i2l, 1) := by decide +kernel
theorem dX12_isEstate_2 : decode cX12_isEstate 2 = .ok (.lconst 0, 1) := by decide +kernel
theorem dX12_isEstate_3 : decode cX12_isEstate 3 = .ok (.aload_n 0, 1) := by decide +kernel
theorem dX12_isEstate_4 : decode cX12_isEstate 4 = .ok (.getfield 8, 3) := by decide +kernel
theorem dX12_isEstate_7 : decode cX12_isEstate 7 = .ok (.iconst 1, 1) := by decide +kernel
theorem dX12_isEstate_8 : decode cX12_isEstate 8 = .ok (.iaload, 1) := by decide +kernel
theorem dX12_isEstate_9 : decode cX12_isEstate 9 = .ok (.i2l, 1) := by decide +kernel
theorem dX12_isEstate_10 : decode cX12_isEstate 10 = .ok (.lconst 1, 1) := by decide +kernel
theorem dX12_isEstate_11 : decode cX12_isEstate 11 = .ok (.lsub, 1) := by decide +kernel
theorem dX12_isEstate_12 : decode cX12_isEstate 12 = .ok (.invokestatic 90, 3) := by decide +kernel
theorem dX12_isEstate_15 : decode cX12_isEstate 15 = .ok (.ireturn, 1) := by decide +kernel
theorem dX12_personAt_0 : decode cX12_personAt 0 = .ok (.bipush 20, 2) := by decide +kernel
theorem dX12_personAt_2 : decode cX12_personAt 2 = .ok (.bipush 8, 2) := by decide +kernel
theorem dX12_personAt_4 : decode cX12_personAt 4 = .ok (.iload_n 0, 1) := by decide +kernel
theorem dX12_personAt_5 : decode cX12_personAt 5 = .ok (.imul, 1) := by decide +kernel
theorem dX12_personAt_6 : decode cX12_personAt 6 = .ok (.iadd, 1) := by decide +kernel
theorem dX12_personAt_7 : decode cX12_personAt 7 = .ok (.ireturn, 1) := by decide +kernel
theorem dX12_fieldAt_0 : decode cX12_fieldAt 0 = .ok (.sipush 364, 3) := by decide +kernel
theorem dX12_fieldAt_3 : decode cX12_fieldAt 3 = .ok (.bipush 8, 2) := by decide +kernel
theorem dX12_fieldAt_5 : decode cX12_fieldAt 5 = .ok (.iload_n 0, 1) := by decide +kernel
theorem dX12_fieldAt_6 : decode cX12_fieldAt 6 = .ok (.imul, 1) := by decide +kernel
theorem dX12_fieldAt_7 : decode cX12_fieldAt 7 = .ok (.iadd, 1) := by decide +kernel
theorem dX12_fieldAt_8 : decode cX12_fieldAt 8 = .ok (.ireturn, 1) := by decide +kernel
theorem dX12_estateAt_0 : decode cX12_estateAt 0 = .ok (.sipush 340, 3) := by decide +kernel
theorem dX12_estateAt_3 : decode cX12_estateAt 3 = .ok (.iconst 3, 1) := by decide +kernel
theorem dX12_estateAt_4 : decode cX12_estateAt 4 = .ok (.iload_n 0, 1) := by decide +kernel
theorem dX12_estateAt_5 : decode cX12_estateAt 5 = .ok (.imul, 1) := by decide +kernel
theorem dX12_estateAt_6 : decode cX12_estateAt 6 = .ok (.iadd, 1) := by decide +kernel
theorem dX12_estateAt_7 : decode cX12_estateAt 7 = .ok (.ireturn, 1) := by decide +kernel
theorem dX12_textAt_0 : decode cX12_textAt 0 = .ok (.sipush 17982, 3) := by decide +kernel
theorem dX12_textAt_3 : decode cX12_textAt 3 = .ok (.sipush 898, 3) := by decide +kernel
theorem dX12_textAt_6 : decode cX12_textAt 6 = .ok (.iload_n 0, 1) := by decide +kernel
theorem dX12_textAt_7 : decode cX12_textAt 7 = .ok (.imul, 1) := by decide +kernel
theorem dX12_textAt_8 : decode cX12_textAt 8 = .ok (.iadd, 1) := by decide +kernel
theorem dX12_textAt_9 : decode cX12_textAt 9 = .ok (.ireturn, 1) := by decide +kernel
theorem dX12_clauseAt_0 : decode cX12_clauseAt 0 = .ok (.iload_n 0, 1) := by decide +kernel
theorem dX12_clauseAt_1 : decode cX12_clauseAt 1 = .ok (.invokestatic 382, 3) := by decide +kernel
theorem dX12_clauseAt_4 : decode cX12_clauseAt 4 = .ok (.iconst 2, 1) := by decide +kernel
theorem dX12_clauseAt_5 : decode cX12_clauseAt 5 = .ok (.iadd, 1) := by decide +kernel
theorem dX12_clauseAt_6 : decode cX12_clauseAt 6 = .ok (.bipush 8, 2) := by decide +kernel
theorem dX12_clauseAt_8 : decode cX12_clauseAt 8 = .ok (.iload_n 1, 1) := by decide +kernel
theorem dX12_clauseAt_9 : decode cX12_clauseAt 9 = .ok (.imul, 1) := by decide +kernel
theorem dX12_clauseAt_10 : decode cX12_clauseAt 10 = .ok (.iadd, 1) := by decide +kernel
theorem dX12_clauseAt_11 : decode cX12_clauseAt 11 = .ok (.ireturn, 1) := by decide +kernel
theorem dX12_isIn_0 : decode cX12_isIn 0 = .ok (.aload_n 0, 1) := by decide +kernel
theorem dX12_isIn_1 : decode cX12_isIn 1 = .ok (.getfield 54, 3) := by decide +kernel
theorem dX12_isIn_4 : decode cX12_isIn 4 = .ok (.iload_n 1, 1) := by decide +kernel
theorem dX12_isIn_5 : decode cX12_isIn 5 = .ok (.baload, 1) := by decide +kernel
theorem dX12_isIn_6 : decode cX12_isIn 6 = .ok (.ifCond .eq 21, 3) := by decide +kernel
theorem dX12_isIn_28 : decode cX12_isIn 28 = .ok (.ireturn, 1) := by decide +kernel
theorem dX12_isIn_27 : decode cX12_isIn 27 = .ok (.iconst 0, 1) := by decide +kernel
theorem dX12_isIn_9 : decode cX12_isIn 9 = .ok (.aload_n 0, 1) := by decide +kernel
theorem dX12_isIn_10 : decode cX12_isIn 10 = .ok (.getfield 57, 3) := by decide +kernel
theorem dX12_isIn_13 : decode cX12_isIn 13 = .ok (.bipush 12, 2) := by decide +kernel
theorem dX12_isIn_15 : decode cX12_isIn 15 = .ok (.iload_n 1, 1) := by decide +kernel
theorem dX12_isIn_16 : decode cX12_isIn 16 = .ok (.imul, 1) := by decide +kernel
theorem dX12_isIn_17 : decode cX12_isIn 17 = .ok (.iload_n 2, 1) := by decide +kernel
theorem dX12_isIn_18 : decode cX12_isIn 18 = .ok (.iadd, 1) := by decide +kernel
theorem dX12_isIn_19 : decode cX12_isIn 19 = .ok (.baload, 1) := by decide +kernel
theorem dX12_isIn_20 : decode cX12_isIn 20 = .ok (.ifCond .ne 7, 3) := by decide +kernel
theorem dX12_isIn_23 : decode cX12_isIn 23 = .ok (.iconst 1, 1) := by decide +kernel
theorem dX12_isIn_24 : decode cX12_isIn 24 = .ok (.goto 4, 3) := by decide +kernel
theorem dX12_findForce_0 : decode cX12_findForce 0 = .ok (.iconst 0, 1) := by decide +kernel
theorem dX12_findForce_1 : decode cX12_findForce 1 = .ok (.istore_n 2, 1) := by decide +kernel
theorem dX12_findForce_2 : decode cX12_findForce 2 = .ok (.iload_n 2, 1) := by decide +kernel
theorem dX12_findForce_3 : decode cX12_findForce 3 = .ok (.sipush 240, 3) := by decide +kernel
theorem dX12_findForce_6 : decode cX12_findForce 6 = .ok (.if_icmp .ge 16, 3) := by decide +kernel
theorem dX12_findForce_22 : decode cX12_findForce 22 = .ok (.aload_n 0, 1) := by decide +kernel
theorem dX12_findForce_23 : decode cX12_findForce 23 = .ok (.getfield 8, 3) := by decide +kernel
theorem dX12_findForce_26 : decode cX12_findForce 26 = .ok (.iconst 3, 1) := by decide +kernel
theorem dX12_findForce_27 : decode cX12_findForce 27 = .ok (.iaload, 1) := by decide +kernel
theorem dX12_findForce_28 : decode cX12_findForce 28 = .ok (.iconst 1, 1) := by decide +kernel
theorem dX12_findForce_29 : decode cX12_findForce 29 = .ok (.isub, 1) := by decide +kernel
theorem dX12_findForce_30 : decode cX12_findForce 30 = .ok (.istore_n 2, 1) := by decide +kernel
theorem dX12_findForce_31 : decode cX12_findForce 31 = .ok (.iload_n 2, 1) := by decide +kernel
theorem dX12_findForce_32 : decode cX12_findForce 32 = .ok (.ifCond .lt 137, 3) := by decide +kernel
theorem dX12_findForce_169 : decode cX12_findForce 169 = .ok (.return_, 1) := by decide +kernel
theorem dX12_findForce_35 : decode cX12_findForce 35 = .ok (.aload_n 0, 1) := by decide +kernel
theorem dX12_findForce_36 : decode cX12_findForce 36 = .ok (.getfield 54, 3) := by decide +kernel
theorem dX12_findForce_39 : decode cX12_findForce 39 = .ok (.iload_n 2, 1) := by decide +kernel
theorem dX12_findForce_40 : decode cX12_findForce 40 = .ok (.aload_n 0, 1) := by decide +kernel
theorem dX12_findForce_41 : decode cX12_findForce 41 = .ok (.getfield 8, 3) := by decide +kernel
theorem dX12_findForce_44 : decode cX12_findForce 44 = .ok (.iload_n 2, 1) := by decide +kernel
theorem dX12_findForce_45 : decode cX12_findForce 45 = .ok (.invokestatic 382, 3) := by decide +kernel
theorem dX12_findForce_48 : decode cX12_findForce 48 = .ok (.iaload, 1) := by decide +kernel
theorem dX12_findForce_49 : decode cX12_findForce 49 = .ok (.iload_n 1, 1) := by decide +kernel
theorem dX12_findForce_50 : decode cX12_findForce 50 = .ok (.if_icmp .gt 7, 3) := by decide +kernel
theorem dX12_findForce_58 : decode cX12_findForce 58 = .ok (.bastore, 1) := by decide +kernel
theorem dX12_findForce_59 : decode cX12_findForce 59 = .ok (.iconst 0, 1) := by decide +kernel
theorem dX12_findForce_60 : decode cX12_findForce 60 = .ok (.istore_n 3, 1) := by decide +kernel
theorem dX12_findForce_61 : decode cX12_findForce 61 = .ok (.iload_n 3, 1) := by decide +kernel
theorem dX12_findForce_62 : decode cX12_findForce 62 = .ok (.aload_n 0, 1) := by decide +kernel
theorem dX12_findForce_63 : decode cX12_findForce 63 = .ok (.getfield 8, 3) := by decide +kernel
theorem dX12_findForce_66 : decode cX12_findForce 66 = .ok (.iload_n 2, 1) := by decide +kernel
theorem dX12_findForce_67 : decode cX12_findForce 67 = .ok (.invokestatic 382, 3) := by decide +kernel
theorem dX12_findForce_70 : decode cX12_findForce 70 = .ok (.iconst 1, 1) := by decide +kernel
theorem dX12_findForce_71 : decode cX12_findForce 71 = .ok (.iadd, 1) := by decide +kernel
theorem dX12_findForce_72 : decode cX12_findForce 72 = .ok (.iaload, 1) := by decide +kernel
theorem dX12_findForce_73 : decode cX12_findForce 73 = .ok (.if_icmp .ge 90, 3) := by decide +kernel
theorem dX12_findForce_163 : decode cX12_findForce 163 = .ok (.iinc 2 (-1), 3) := by decide +kernel
theorem dX12_findForce_166 : decode cX12_findForce 166 = .ok (.goto (-135), 3) := by decide +kernel
theorem dX12_findForce_76 : decode cX12_findForce 76 = .ok (.aload_n 0, 1) := by decide +kernel
theorem dX12_findForce_77 : decode cX12_findForce 77 = .ok (.getfield 54, 3) := by decide +kernel
theorem dX12_findForce_80 : decode cX12_findForce 80 = .ok (.iload_n 2, 1) := by decide +kernel
theorem dX12_findForce_81 : decode cX12_findForce 81 = .ok (.baload, 1) := by decide +kernel
theorem dX12_findForce_82 : decode cX12_findForce 82 = .ok (.ifCond .eq 81, 3) := by decide +kernel
theorem dX12_findForce_85 : decode cX12_findForce 85 = .ok (.iload_n 2, 1) := by decide +kernel
theorem dX12_findForce_86 : decode cX12_findForce 86 = .ok (.iload_n 3, 1) := by decide +kernel
theorem dX12_findForce_87 : decode cX12_findForce 87 = .ok (.invokestatic 388, 3) := by decide +kernel
theorem dX12_findForce_90 : decode cX12_findForce 90 = .ok (.istore 4, 2) := by decide +kernel
theorem dX12_findForce_92 : decode cX12_findForce 92 = .ok (.aload_n 0, 1) := by decide +kernel
theorem dX12_findForce_93 : decode cX12_findForce 93 = .ok (.getfield 8, 3) := by decide +kernel
theorem dX12_findForce_96 : decode cX12_findForce 96 = .ok (.iload 4, 2) := by decide +kernel
theorem dX12_findForce_98 : decode cX12_findForce 98 = .ok (.iaload, 1) := by decide +kernel
theorem dX12_findForce_99 : decode cX12_findForce 99 = .ok (.ifCond .ne 58, 3) := by decide +kernel
theorem dX12_findForce_157 : decode cX12_findForce 157 = .ok (.iinc 3 1, 3) := by decide +kernel
theorem dX12_findForce_160 : decode cX12_findForce 160 = .ok (.goto (-99), 3) := by decide +kernel
theorem dX12_findForce_102 : decode cX12_findForce 102 = .ok (.aload_n 0, 1) := by decide +kernel
theorem dX12_findForce_103 : decode cX12_findForce 103 = .ok (.getfield 57, 3) := by decide +kernel
theorem dX12_findForce_106 : decode cX12_findForce 106 = .ok (.bipush 12, 2) := by decide +kernel
theorem dX12_findForce_108 : decode cX12_findForce 108 = .ok (.iload_n 2, 1) := by decide +kernel
theorem dX12_findForce_109 : decode cX12_findForce 109 = .ok (.imul, 1) := by decide +kernel
theorem dX12_findForce_110 : decode cX12_findForce 110 = .ok (.iload_n 3, 1) := by decide +kernel
theorem dX12_findForce_111 : decode cX12_findForce 111 = .ok (.iadd, 1) := by decide +kernel
theorem dX12_findForce_112 : decode cX12_findForce 112 = .ok (.baload, 1) := by decide +kernel
theorem dX12_findForce_113 : decode cX12_findForce 113 = .ok (.ifCond .ne 44, 3) := by decide +kernel
theorem dX12_findForce_116 : decode cX12_findForce 116 = .ok (.aload_n 0, 1) := by decide +kernel
theorem dX12_findForce_117 : decode cX12_findForce 117 = .ok (.getfield 8, 3) := by decide +kernel
theorem dX12_findForce_120 : decode cX12_findForce 120 = .ok (.iload 4, 2) := by decide +kernel
theorem dX12_findForce_122 : decode cX12_findForce 122 = .ok (.iconst 1, 1) := by decide +kernel
theorem dX12_findForce_123 : decode cX12_findForce 123 = .ok (.iadd, 1) := by decide +kernel
theorem dX12_findForce_124 : decode cX12_findForce 124 = .ok (.iaload, 1) := by decide +kernel
theorem dX12_findForce_125 : decode cX12_findForce 125 = .ok (.iload_n 2, 1) := by decide +kernel
theorem dX12_findForce_126 : decode cX12_findForce 126 = .ok (.if_icmp .ge 31, 3) := by decide +kernel
theorem dX12_findForce_129 : decode cX12_findForce 129 = .ok (.aload_n 0, 1) := by decide +kernel
theorem dX12_findForce_130 : decode cX12_findForce 130 = .ok (.getfield 57, 3) := by decide +kernel
theorem dX12_findForce_133 : decode cX12_findForce 133 = .ok (.bipush 12, 2) := by decide +kernel
theorem dX12_findForce_135 : decode cX12_findForce 135 = .ok (.aload_n 0, 1) := by decide +kernel
theorem dX12_findForce_136 : decode cX12_findForce 136 = .ok (.getfield 8, 3) := by decide +kernel
theorem dX12_findForce_139 : decode cX12_findForce 139 = .ok (.iload 4, 2) := by decide +kernel
theorem dX12_findForce_141 : decode cX12_findForce 141 = .ok (.iconst 1, 1) := by decide +kernel
theorem dX12_findForce_142 : decode cX12_findForce 142 = .ok (.iadd, 1) := by decide +kernel
theorem dX12_findForce_143 : decode cX12_findForce 143 = .ok (.iaload, 1) := by decide +kernel
theorem dX12_findForce_144 : decode cX12_findForce 144 = .ok (.imul, 1) := by decide +kernel
theorem dX12_findForce_145 : decode cX12_findForce 145 = .ok (.aload_n 0, 1) := by decide +kernel
theorem dX12_findForce_146 : decode cX12_findForce 146 = .ok (.getfield 8, 3) := by decide +kernel
theorem dX12_findForce_149 : decode cX12_findForce 149 = .ok (.iload 4, 2) := by decide +kernel
theorem dX12_findForce_151 : decode cX12_findForce 151 = .ok (.iconst 2, 1) := by decide +kernel
theorem dX12_findForce_152 : decode cX12_findForce 152 = .ok (.iadd, 1) := by decide +kernel
theorem dX12_findForce_153 : decode cX12_findForce 153 = .ok (.iaload, 1) := by decide +kernel
theorem dX12_findForce_154 : decode cX12_findForce 154 = .ok (.iadd, 1) := by decide +kernel
theorem dX12_findForce_155 : decode cX12_findForce 155 = .ok (.iconst 1, 1) := by decide +kernel
theorem dX12_findForce_156 : decode cX12_findForce 156 = .ok (.bastore, 1) := by decide +kernel
theorem dX12_findForce_57 : decode cX12_findForce 57 = .ok (.iconst 0, 1) := by decide +kernel
theorem dX12_findForce_53 : decode cX12_findForce 53 = .ok (.iconst 1, 1) := by decide +kernel
theorem dX12_findForce_54 : decode cX12_findForce 54 = .ok (.goto 4, 3) := by decide +kernel
theorem dX12_findForce_9 : decode cX12_findForce 9 = .ok (.aload_n 0, 1) := by decide +kernel
theorem dX12_findForce_10 : decode cX12_findForce 10 = .ok (.getfield 57, 3) := by decide +kernel
theorem dX12_findForce_13 : decode cX12_findForce 13 = .ok (.iload_n 2, 1) := by decide +kernel
theorem dX12_findForce_14 : decode cX12_findForce 14 = .ok (.iconst 0, 1) := by decide +kernel
theorem dX12_findForce_15 : decode cX12_findForce 15 = .ok (.bastore, 1) := by decide +kernel
theorem dX12_findForce_16 : decode cX12_findForce 16 = .ok (.iinc 2 1, 3) := by decide +kernel
theorem dX12_findForce_19 : decode cX12_findForce 19 = .ok (.goto (-17), 3) := by decide +kernel
theorem dX12_forceNow_0 : decode cX12_forceNow 0 = .ok (.aload_n 0, 1) := by decide +kernel
theorem dX12_forceNow_1 : decode cX12_forceNow 1 = .ok (.aload_n 0, 1) := by decide +kernel
theorem dX12_forceNow_2 : decode cX12_forceNow 2 = .ok (.getfield 8, 3) := by decide +kernel
theorem dX12_forceNow_5 : decode cX12_forceNow 5 = .ok (.bipush 8, 2) := by decide +kernel
theorem dX12_forceNow_7 : decode cX12_forceNow 7 = .ok (.iaload, 1) := by decide +kernel
theorem dX12_forceNow_8 : decode cX12_forceNow 8 = .ok (.invokevirtual 392, 3) := by decide +kernel
theorem dX12_forceNow_11 : decode cX12_forceNow 11 = .ok (.return_, 1) := by decide +kernel
theorem dX12_stepWeeks_0 : decode cX12_stepWeeks 0 = .ok (.iconst 4, 1) := by decide +kernel
theorem dX12_stepWeeks_1 : decode cX12_stepWeeks 1 = .ok (.istore_n 2, 1) := by decide +kernel
theorem dX12_stepWeeks_2 : decode cX12_stepWeeks 2 = .ok (.iconst 0, 1) := by decide +kernel
theorem dX12_stepWeeks_3 : decode cX12_stepWeeks 3 = .ok (.istore_n 3, 1) := by decide +kernel
theorem dX12_stepWeeks_4 : decode cX12_stepWeeks 4 = .ok (.iload_n 3, 1) := by decide +kernel
theorem dX12_stepWeeks_5 : decode cX12_stepWeeks 5 = .ok (.aload_n 0, 1) := by decide +kernel
theorem dX12_stepWeeks_6 : decode cX12_stepWeeks 6 = .ok (.getfield 8, 3) := by decide +kernel
theorem dX12_stepWeeks_9 : decode cX12_stepWeeks 9 = .ok (.iconst 3, 1) := by decide +kernel
theorem dX12_stepWeeks_10 : decode cX12_stepWeeks 10 = .ok (.iaload, 1) := by decide +kernel
theorem dX12_stepWeeks_11 : decode cX12_stepWeeks 11 = .ok (.if_icmp .ge 90, 3) := by decide +kernel
theorem dX12_stepWeeks_101 : decode cX12_stepWeeks 101 = .ok (.iload_n 2, 1) := by decide +kernel
theorem dX12_stepWeeks_102 : decode cX12_stepWeeks 102 = .ok (.ireturn, 1) := by decide +kernel
theorem dX12_stepWeeks_14 : decode cX12_stepWeeks 14 = .ok (.iconst 0, 1) := by decide +kernel
theorem dX12_stepWeeks_15 : decode cX12_stepWeeks 15 = .ok (.istore 4, 2) := by decide +kernel
theorem dX12_stepWeeks_17 : decode cX12_stepWeeks 17 = .ok (.iload 4, 2) := by decide +kernel
theorem dX12_stepWeeks_19 : decode cX12_stepWeeks 19 = .ok (.aload_n 0, 1) := by decide +kernel
theorem dX12_stepWeeks_20 : decode cX12_stepWeeks 20 = .ok (.getfield 8, 3) := by decide +kernel
theorem dX12_stepWeeks_23 : decode cX12_stepWeeks 23 = .ok (.iload_n 3, 1) := by decide +kernel
theorem dX12_stepWeeks_24 : decode cX12_stepWeeks 24 = .ok (.invokestatic 382, 3) := by decide +kernel
theorem dX12_stepWeeks_27 : decode cX12_stepWeeks 27 = .ok (.iconst 1, 1) := by decide +kernel
theorem dX12_stepWeeks_28 : decode cX12_stepWeeks 28 = .ok (.iadd, 1) := by decide +kernel
theorem dX12_stepWeeks_29 : decode cX12_stepWeeks 29 = .ok (.iaload, 1) := by decide +kernel
theorem dX12_stepWeeks_30 : decode cX12_stepWeeks 30 = .ok (.if_icmp .ge 65, 3) := by decide +kernel
theorem dX12_stepWeeks_95 : decode cX12_stepWeeks 95 = .ok (.iinc 3 1, 3) := by decide +kernel
theorem dX12_stepWeeks_98 : decode cX12_stepWeeks 98 = .ok (.goto (-94), 3) := by decide +kernel
theorem dX12_stepWeeks_33 : decode cX12_stepWeeks 33 = .ok (.iload_n 3, 1) := by decide +kernel
theorem dX12_stepWeeks_34 : decode cX12_stepWeeks 34 = .ok (.iload 4, 2) := by decide +kernel
theorem dX12_stepWeeks_36 : decode cX12_stepWeeks 36 = .ok (.invokestatic 388, 3) := by decide +kernel
theorem dX12_stepWeeks_39 : decode cX12_stepWeeks 39 = .ok (.istore 5, 2) := by decide +kernel
theorem dX12_stepWeeks_41 : decode cX12_stepWeeks 41 = .ok (.aload_n 0, 1) := by decide +kernel
theorem dX12_stepWeeks_42 : decode cX12_stepWeeks 42 = .ok (.getfield 8, 3) := by decide +kernel
theorem dX12_stepWeeks_45 : decode cX12_stepWeeks 45 = .ok (.iload 5, 2) := by decide +kernel
theorem dX12_stepWeeks_47 : decode cX12_stepWeeks 47 = .ok (.iaload, 1) := by decide +kernel
theorem dX12_stepWeeks_48 : decode cX12_stepWeeks 48 = .ok (.iconst 1, 1) := by decide +kernel
theorem dX12_stepWeeks_49 : decode cX12_stepWeeks 49 = .ok (.if_icmp .ne 38, 3) := by decide +kernel
theorem dX12_stepWeeks_88 : decode cX12_stepWeeks 88 = .ok (.istore_n 2, 1) := by decide +kernel
theorem dX12_stepWeeks_89 : decode cX12_stepWeeks 89 = .ok (.iinc 4 1, 3) := by decide +kernel
theorem dX12_stepWeeks_92 : decode cX12_stepWeeks 92 = .ok (.goto (-75), 3) := by decide +kernel
theorem dX12_stepWeeks_87 : decode cX12_stepWeeks 87 = .ok (.iload_n 2, 1) := by decide +kernel
theorem dX12_stepWeeks_52 : decode cX12_stepWeeks 52 = .ok (.aload_n 0, 1) := by decide +kernel
theorem dX12_stepWeeks_53 : decode cX12_stepWeeks 53 = .ok (.getfield 8, 3) := by decide +kernel
theorem dX12_stepWeeks_56 : decode cX12_stepWeeks 56 = .ok (.iload 5, 2) := by decide +kernel
theorem dX12_stepWeeks_58 : decode cX12_stepWeeks 58 = .ok (.iconst 1, 1) := by decide +kernel
theorem dX12_stepWeeks_59 : decode cX12_stepWeeks 59 = .ok (.iadd, 1) := by decide +kernel
theorem dX12_stepWeeks_60 : decode cX12_stepWeeks 60 = .ok (.iaload, 1) := by decide +kernel
theorem dX12_stepWeeks_61 : decode cX12_stepWeeks 61 = .ok (.iload_n 1, 1) := by decide +kernel
theorem dX12_stepWeeks_62 : decode cX12_stepWeeks 62 = .ok (.if_icmp .ne 25, 3) := by decide +kernel
theorem dX12_stepWeeks_65 : decode cX12_stepWeeks 65 = .ok (.aload_n 0, 1) := by decide +kernel
theorem dX12_stepWeeks_66 : decode cX12_stepWeeks 66 = .ok (.iload_n 3, 1) := by decide +kernel
theorem dX12_stepWeeks_67 : decode cX12_stepWeeks 67 = .ok (.iload 4, 2) := by decide +kernel
theorem dX12_stepWeeks_69 : decode cX12_stepWeeks 69 = .ok (.invokevirtual 395, 3) := by decide +kernel
theorem dX12_stepWeeks_72 : decode cX12_stepWeeks 72 = .ok (.ifCond .eq 15, 3) := by decide +kernel
theorem dX12_stepWeeks_75 : decode cX12_stepWeeks 75 = .ok (.aload_n 0, 1) := by decide +kernel
theorem dX12_stepWeeks_76 : decode cX12_stepWeeks 76 = .ok (.getfield 8, 3) := by decide +kernel
theorem dX12_stepWeeks_79 : decode cX12_stepWeeks 79 = .ok (.iload 5, 2) := by decide +kernel
theorem dX12_stepWeeks_81 : decode cX12_stepWeeks 81 = .ok (.iconst 2, 1) := by decide +kernel
theorem dX12_stepWeeks_82 : decode cX12_stepWeeks 82 = .ok (.iadd, 1) := by decide +kernel
theorem dX12_stepWeeks_83 : decode cX12_stepWeeks 83 = .ok (.iaload, 1) := by decide +kernel
theorem dX12_stepWeeks_84 : decode cX12_stepWeeks 84 = .ok (.goto 4, 3) := by decide +kernel
theorem dX12_force_0 : decode cX12_force 0 = .ok (.aload_n 0, 1) := by decide +kernel
theorem dX12_force_1 : decode cX12_force 1 = .ok (.iconst 0, 1) := by decide +kernel
theorem dX12_force_2 : decode cX12_force 2 = .ok (.putfield 82, 3) := by decide +kernel
theorem dX12_force_5 : decode cX12_force 5 = .ok (.iload_n 1, 1) := by decide +kernel
theorem dX12_force_6 : decode cX12_force 6 = .ok (.i2l, 1) := by decide +kernel
theorem dX12_force_7 : decode cX12_force 7 = .ok (.lconst 0, 1) := by decide +kernel
theorem dX12_force_8 : decode cX12_force 8 = .ok (.aload_n 0, 1) := by decide +kernel
theorem dX12_force_9 : decode cX12_force 9 = .ok (.getfield 8, 3) := by decide +kernel
theorem dX12_force_12 : decode cX12_force 12 = .ok (.iconst 3, 1) := by decide +kernel
theorem dX12_force_13 : decode cX12_force 13 = .ok (.iaload, 1) := by decide +kernel
theorem dX12_force_14 : decode cX12_force 14 = .ok (.i2l, 1) := by decide +kernel
theorem dX12_force_15 : decode cX12_force 15 = .ok (.lconst 1, 1) := by decide +kernel
theorem dX12_force_16 : decode cX12_force 16 = .ok (.lsub, 1) := by decide +kernel
theorem dX12_force_17 : decode cX12_force 17 = .ok (.invokestatic 90, 3) := by decide +kernel
theorem dX12_force_20 : decode cX12_force 20 = .ok (.ifCond .eq 33, 3) := by decide +kernel
theorem dX12_force_53 : decode cX12_force 53 = .ok (.iconst (-1), 1) := by decide +kernel
theorem dX12_force_54 : decode cX12_force 54 = .ok (.ireturn, 1) := by decide +kernel
theorem dX12_force_23 : decode cX12_force 23 = .ok (.iload_n 2, 1) := by decide +kernel
theorem dX12_force_24 : decode cX12_force 24 = .ok (.i2l, 1) := by decide +kernel
theorem dX12_force_25 : decode cX12_force 25 = .ok (.lconst 0, 1) := by decide +kernel
theorem dX12_force_26 : decode cX12_force 26 = .ok (.aload_n 0, 1) := by decide +kernel
theorem dX12_force_27 : decode cX12_force 27 = .ok (.getfield 8, 3) := by decide +kernel
theorem dX12_force_30 : decode cX12_force 30 = .ok (.iload_n 1, 1) := by decide +kernel
theorem dX12_force_31 : decode cX12_force 31 = .ok (.invokestatic 382, 3) := by decide +kernel
theorem dX12_force_34 : decode cX12_force 34 = .ok (.iconst 1, 1) := by decide +kernel
theorem dX12_force_35 : decode cX12_force 35 = .ok (.iadd, 1) := by decide +kernel
theorem dX12_force_36 : decode cX12_force 36 = .ok (.iaload, 1) := by decide +kernel
theorem dX12_force_37 : decode cX12_force 37 = .ok (.i2l, 1) := by decide +kernel
theorem dX12_force_38 : decode cX12_force 38 = .ok (.lconst 1, 1) := by decide +kernel
theorem dX12_force_39 : decode cX12_force 39 = .ok (.lsub, 1) := by decide +kernel
theorem dX12_force_40 : decode cX12_force 40 = .ok (.invokestatic 90, 3) := by decide +kernel
theorem dX12_force_43 : decode cX12_force 43 = .ok (.ifCond .eq 10, 3) := by decide +kernel
theorem dX12_force_46 : decode cX12_force 46 = .ok (.iload_n 3, 1) := by decide +kernel
theorem dX12_force_47 : decode cX12_force 47 = .ok (.invokestatic 156, 3) := by decide +kernel
theorem dX12_force_50 : decode cX12_force 50 = .ok (.ifCond .ne 5, 3) := by decide +kernel
theorem dX12_force_55 : decode cX12_force 55 = .ok (.aload_n 0, 1) := by decide +kernel
theorem dX12_force_56 : decode cX12_force 56 = .ok (.iload_n 3, 1) := by decide +kernel
theorem dX12_force_57 : decode cX12_force 57 = .ok (.invokevirtual 392, 3) := by decide +kernel
theorem dX12_force_60 : decode cX12_force 60 = .ok (.aload_n 0, 1) := by decide +kernel
theorem dX12_force_61 : decode cX12_force 61 = .ok (.iload_n 1, 1) := by decide +kernel
theorem dX12_force_62 : decode cX12_force 62 = .ok (.iload_n 2, 1) := by decide +kernel
theorem dX12_force_63 : decode cX12_force 63 = .ok (.invokevirtual 395, 3) := by decide +kernel
theorem dX12_force_66 : decode cX12_force 66 = .ok (.ifCond .eq 7, 3) := by decide +kernel
theorem dX12_force_74 : decode cX12_force 74 = .ok (.ireturn, 1) := by decide +kernel
theorem dX12_force_73 : decode cX12_force 73 = .ok (.iconst 0, 1) := by decide +kernel
theorem dX12_force_69 : decode cX12_force 69 = .ok (.iconst 1, 1) := by decide +kernel
theorem dX12_force_70 : decode cX12_force 70 = .ok (.goto 4, 3) := by decide +kernel
def ms_X12_isIn : List (Nat × Nat) := []
def po_X12_isIn (kp : Nat → Nat) (L : List Nat) (f0 : Nat → va_E) (h0 : Nat) (u1 : Int32) (u2 : Int32) : Option Value → (Nat → va_E) → Prop := fun v f => (∃ r : Int32, v = some (.int r) ∧ ((0 : Int) ≤ r.toInt ∧ r.toInt ≤ 1)) ∧ FM kp L ms_X12_isIn f0 f
set_option maxHeartbeats 4000000 in
set_option maxRecDepth 100000 in
theorem c_X12_isIn (l : Launch) (G : va_G) (cI cJ cZ cD cR cT : ClassId) (kp : Nat → Nat) (L : List Nat) (f0 : Nat → va_E) (hTH : TH cI cJ cZ cD cR cT kp L f0) (sz : Nat) (h0 : Nat) (u1 : Int32) (u2 : Int32) (rh0 : RK kp L h0 12) (pu1 : (0 : Int) ≤ u1.toInt ∧ u1.toInt ≤ 19) (pu2 : (0 : Int) ≤ u2.toInt ∧ u2.toInt ≤ 11) : Met l yX12_isIn (Cond.code yX12_isIn cX12_isIn 3 (some .boolean) :: wTab) ({ frames := 1, cells := 0, slots := 0, locals := 40 }) (va_Pc [.ref h0, .int u1, .int u2] (PreW G (tys6 cI cJ cZ cD cR cT) (va_pl L f0) sz)) (QT (po_X12_isIn kp L f0 h0 u1 u2) G cI cJ cZ cD cR cT (va_A (va_pl L f0) sz) kp L) 0 0 (va_A (va_pl L f0) sz) := by
  refine metT (by decide) (Nat.le_of_ble_eq_true rfl) hTH ?_
  intro p e s m below meth c A ls E hW hl
  obtain ⟨hx, hb, -, hml, hown, hts, -, -, -⟩ := id E
  have hF : FM kp L ms_X12_isIn f0 f0 := FM.rf
  have hl : lv_has ls 3 [(0, .ref h0), (1, .int u1), (2, .int u2)] := hl
  obtain ⟨pR, mR⟩ : ∃ x : Nat, oR (f0 h0) 2 = x := ⟨_, rfl⟩
  have rR : RK kp L pR 822 := by rw [← mR]; exact th_ref hTH rh0 (by decide) (by decide) rfl
  refine lv_aload_n hx hb dX12_isIn_0 rfl (lv_at hl 0 rfl) ?_
  refine fg_RX12_54 E hW rh0 dX12_isIn_1 (fun a1 m2 r3 => ?_)
  refine lv_iload_n hx hb dX12_isIn_4 rfl (lv_at hl 1 rfl) ?_
  refine gl_849 E hW r3 ⟨by omega, by omega⟩ dX12_isIn_5 (fun y4 m5 b6 => ?_)
  have J20 : ∀ (y18 : Int32) (b19 : (0 : Int) ≤ y18.toInt ∧ y18.toInt ≤ 1) (H : Heap) (locs : List Loc) (ls : Array Slot), WS G cI cJ cZ cD cR cT A kp L f0 s H locs → FM kp L ms_X12_isIn f0 f0 → lv_has ls 3 [(0, .ref h0), (1, .int u1), (2, .int u2)] → W p l e ({ frames := 1, cells := 0, slots := 0, locals := 40 }) s m ([.ref h0, .int u1, .int u2] : List Value).toArray below meth c H locs 0 0 (MQ below (QT (po_X12_isIn kp L f0 h0 u1 u2) G cI cJ cZ cD cR cT A kp L) ([.ref h0, .int u1, .int u2] : List Value).toArray s 0 0 A) (F0 m 28 ls [.int y18]) := by
    intro y18 b19 H locs ls hW hF hl
    exact e_Z E hW rfl (by omega) ⟨⟨_, rfl, (by first | omega | trivial)⟩, hF⟩ dX12_isIn_28
  refine q_if_eq (tgt := 27) hx hb dX12_isIn_6 (by decide) rfl (fun c21 => ?_) (fun c21 => ?_)
  · refine lv_iconst (v := 0) hx hb dX12_isIn_27 (by decide) ?_
    exact J20 0 (by decide) _ _ _ hW hF (lv_sub hl [0, 1, 2] rfl)
  · refine lv_aload_n hx hb dX12_isIn_9 rfl (lv_at hl 0 rfl) ?_
    refine fg_RX12_57 E hW rh0 dX12_isIn_10 (fun a22 m23 r24 => ?_)
    refine lv_bipush (v := 12) hx hb dX12_isIn_13 (by decide) ?_
    refine lv_iload_n hx hb dX12_isIn_15 rfl (lv_at hl 1 rfl) ?_
    refine q_imul (X := 12) hx hb dX12_isIn_16 rfl rfl (by omega) (fun x25 h26 => ?_)
    refine lv_iload_n hx hb dX12_isIn_17 rfl (lv_at hl 2 rfl) ?_
    refine q_iadd hx hb dX12_isIn_18 rfl rfl (by omega) (fun x27 h28 => ?_)
    refine gl_850 E hW r24 ⟨by omega, by omega⟩ dX12_isIn_19 (fun y29 m30 b31 => ?_)
    refine q_if_ne (tgt := 27) hx hb dX12_isIn_20 (by decide) rfl (fun c32 => ?_) (fun c32 => ?_)
    · refine lv_iconst (v := 0) hx hb dX12_isIn_27 (by decide) ?_
      exact J20 0 (by decide) _ _ _ hW hF (lv_sub hl [0, 1, 2] rfl)
    · refine lv_iconst (v := 1) hx hb dX12_isIn_23 (by decide) ?_
      refine lv_goto (tgt := 28) hx hb dX12_isIn_24 (by decide) ?_
      exact J20 1 (by decide) _ _ _ hW hF (lv_sub hl [0, 1, 2] rfl)
def ms_X12_findForce : List (Nat × Nat) := [(849, 0), (850, 0)]
def po_X12_findForce (kp : Nat → Nat) (L : List Nat) (f0 : Nat → va_E) (h0 : Nat) (u1 : Int32) : Option Value → (Nat → va_E) → Prop := fun v f => v = none ∧ FM kp L ms_X12_findForce f0 f
set_option maxHeartbeats 4000000 in
set_option maxRecDepth 100000 in
theorem c_X12_findForce (l : Launch) (G : va_G) (cI cJ cZ cD cR cT : ClassId) (kp : Nat → Nat) (L : List Nat) (f0 : Nat → va_E) (hTH : TH cI cJ cZ cD cR cT kp L f0) (sz : Nat) (h0 : Nat) (u1 : Int32) (rh0 : RK kp L h0 12) (pu1 : (0 : Int) ≤ u1.toInt ∧ u1.toInt ≤ 399) (hTX : TX (aI (f0 (oR (f0 h0) 2)))) : Met l yX12_findForce (Cond.code yX12_findForce cX12_findForce 5 none :: wTab) ({ frames := 3, cells := 0, slots := 0, locals := 81 }) (va_Pc [.ref h0, .int u1] (PreW G (tys6 cI cJ cZ cD cR cT) (va_pl L f0) sz)) (QT (po_X12_findForce kp L f0 h0 u1) G cI cJ cZ cD cR cT (va_A (va_pl L f0) sz) kp L) 0 0 (va_A (va_pl L f0) sz) := by
  refine metT (by decide) (Nat.le_of_ble_eq_true rfl) hTH ?_
  intro p e s m below meth c A ls E hW hl
  obtain ⟨hx, hb, -, hml, hown, hts, -, -, -⟩ := id E
  have hF : FM kp L ms_X12_findForce f0 f0 := FM.rf
  have hl : lv_has ls 5 [(0, .ref h0), (1, .int u1)] := hl
  obtain ⟨pR, mR⟩ : ∃ x : Nat, oR (f0 h0) 2 = x := ⟨_, rfl⟩
  have rR : RK kp L pR 822 := by rw [← mR]; exact th_ref hTH rh0 (by decide) (by decide) rfl
  rw [mR] at hTX
  refine lv_iconst (v := 0) hx hb dX12_findForce_0 (by decide) ?_
  refine lv_istore_n (lv' := [(2, .int 0), (0, .ref h0), (1, .int u1)]) hx hb dX12_findForce_1 rfl hl (by decide) rfl (fun ls hl => ?_)
  have L565 : ∀ (n : Nat), ∀ (f561 : Nat → va_E) (y563 : Int32) (m562 : oR (f561 h0) 2 = pR) (b564 : (0 : Int) ≤ y563.toInt ∧ y563.toInt ≤ 240) (hm : (241 : Int) - y563.toInt ≤ n) (H : Heap) (locs : List Loc) (ls : Array Slot), WS G cI cJ cZ cD cR cT A kp L f561 s H locs → FM kp L ms_X12_findForce f0 f561 → lv_has ls 5 [(2, .int y563), (0, .ref h0), (1, .int u1)] → W p l e ({ frames := 3, cells := 0, slots := 0, locals := 81 }) s m ([.ref h0, .int u1] : List Value).toArray below meth c H locs 0 0 (MQ below (QT (po_X12_findForce kp L f0 h0 u1) G cI cJ cZ cD cR cT A kp L) ([.ref h0, .int u1] : List Value).toArray s 0 0 A) (F0 m 2 ls []) := by
    intro n
    induction n with
    | zero =>
      intro f561 y563 m562 b564 hm H locs ls hW hF hl
      have hz := i32_b y563
      exfalso; omega
    | succ n ih =>
      intro f561 y563 m562 b564 hm H locs ls hW hF hl
      have ih2 := ih
      refine lv_iload_n hx hb dX12_findForce_2 rfl (lv_at hl 0 rfl) ?_
      refine lv_sipush (v := 240) hx hb dX12_findForce_3 (by decide) ?_
      refine q_icmp_ge (Y := 240) (tgt := 22) hx hb dX12_findForce_6 (by decide) rfl rfl (fun c575 => ?_) (fun c575 => ?_)
      · refine lv_aload_n hx hb dX12_findForce_22 rfl (lv_at hl 1 rfl) ?_
        refine fg_RX12_8 E hW rh0 dX12_findForce_23 (fun a576 m577 r578 => ?_)
        obtain rfl : pR = a576 := (m562).symm.trans m577
        refine lv_iconst (v := 3) hx hb dX12_findForce_26 (by decide) ?_
        refine gl_822 E hW rR (by decide) dX12_findForce_27 (fun y579 m580 b581 => ?_)
        have b582 := rr_3 (show RowInv _ from b581) m580 (by decide)
        refine lv_iconst (v := 1) hx hb dX12_findForce_28 (by decide) ?_
        refine q_isub (Y := 1) hx hb dX12_findForce_29 rfl rfl (by omega) (fun x583 h584 => ?_)
        refine lv_istore_n (lv' := [(2, .int x583), (0, .ref h0), (1, .int u1)]) hx hb dX12_findForce_30 rfl hl (by decide) rfl (fun ls hl => ?_)
        have L2702 : ∀ (n : Nat), ∀ (f2697 : Nat → va_E) (y2700 : Int32) (m2698 : oR (f2697 h0) 2 = pR) (m2699 : aI (f2697 pR) (3 : Int32).toNatClampNeg = y579) (b2701 : (-1 : Int) ≤ y2700.toInt ∧ y2700.toInt ≤ 19) (hm : y2700.toInt - (-2 : Int) ≤ n) (H : Heap) (locs : List Loc) (ls : Array Slot), WS G cI cJ cZ cD cR cT A kp L f2697 s H locs → FM kp L ms_X12_findForce f0 f2697 → lv_has ls 5 [(2, .int y2700), (0, .ref h0), (1, .int u1)] → W p l e ({ frames := 3, cells := 0, slots := 0, locals := 81 }) s m ([.ref h0, .int u1] : List Value).toArray below meth c H locs 0 0 (MQ below (QT (po_X12_findForce kp L f0 h0 u1) G cI cJ cZ cD cR cT A kp L) ([.ref h0, .int u1] : List Value).toArray s 0 0 A) (F0 m 31 ls []) := by
          intro n
          induction n with
          | zero =>
            intro f2697 y2700 m2698 m2699 b2701 hm H locs ls hW hF hl
            have hz := i32_b y2700
            exfalso; omega
          | succ n ih =>
            intro f2697 y2700 m2698 m2699 b2701 hm H locs ls hW hF hl
            have ih31 := ih
            refine lv_iload_n hx hb dX12_findForce_31 rfl (lv_at hl 0 rfl) ?_
            refine q_if_lt (tgt := 169) hx hb dX12_findForce_32 (by decide) rfl (fun c4809 => ?_) (fun c4809 => ?_)
            · exact e_V E hW rfl ⟨rfl, hF⟩ dX12_findForce_169
            · refine lv_aload_n hx hb dX12_findForce_35 rfl (lv_at hl 1 rfl) ?_
              refine fg_RX12_54 E hW rh0 dX12_findForce_36 (fun a4810 m4811 r4812 => ?_)
              refine lv_iload_n hx hb dX12_findForce_39 rfl (lv_at hl 0 rfl) ?_
              refine lv_aload_n hx hb dX12_findForce_40 rfl (lv_at hl 1 rfl) ?_
              refine fg_RX12_8 E hW rh0 dX12_findForce_41 (fun a4813 m4814 r4815 => ?_)
              obtain rfl : pR = a4813 := (m2698).symm.trans m4814
              refine lv_iload_n hx hb dX12_findForce_44 rfl (lv_at hl 0 rfl) ?_
              refine t_callS (As := [.int y2700]) (rest := [.ref pR, .int y2700, .ref a4810]) E hW (c_X12_textAt l G cI cJ cZ cD cR cT kp L f2697 hW.2.2.2 _ y2700 (by omega)) wk_X12_textAt tw_1655 rfl ⟨Nat.le_of_ble_eq_true rfl, Nat.le_of_ble_eq_true rfl⟩ ⟨rfl, rfl⟩ hl.1 rfl (Nat.le_of_ble_eq_true rfl) dX12_findForce_45 ⟨Nat.le_of_ble_eq_true rfl, Nat.le_of_ble_eq_true rfl⟩ (fun v4816 f4817 H locs q4818 hW => ?_)
              obtain ⟨⟨x4820, rfl, p4821⟩, g4819⟩ := q4818
              have hF := FM.tr hF g4819 rfl
              refine gl_822 E hW rR ⟨by omega, by omega⟩ dX12_findForce_48 (fun y4822 m4823 b4824 => ?_)
              refine lv_iload_n hx hb dX12_findForce_49 rfl (lv_at hl 2 rfl) ?_
              have J4828 : ∀ (y4826 : Int32) (b4827 : (0 : Int) ≤ y4826.toInt ∧ y4826.toInt ≤ 1) (H : Heap) (locs : List Loc) (ls : Array Slot), WS G cI cJ cZ cD cR cT A kp L f4817 s H locs → FM kp L ms_X12_findForce f0 f4817 → lv_has ls 5 [(2, .int y2700), (0, .ref h0), (1, .int u1)] → W p l e ({ frames := 3, cells := 0, slots := 0, locals := 81 }) s m ([.ref h0, .int u1] : List Value).toArray below meth c H locs 0 0 (MQ below (QT (po_X12_findForce kp L f0 h0 u1) G cI cJ cZ cD cR cT A kp L) ([.ref h0, .int u1] : List Value).toArray s 0 0 A) (F0 m 58 ls [.int y4826, .int y2700, .ref a4810]) := by
                intro y4826 b4827 H locs ls hW hF hl
                refine gs_849 E hW r4812 ⟨by omega, by omega⟩ (by omega) dX12_findForce_58 (fun f4829 H locs e4830 n4831 g4832 hW => ?_)
                have hF := FM.tr hF g4832 rfl
                refine lv_iconst (v := 0) hx hb dX12_findForce_59 (by decide) ?_
                refine lv_istore_n (lv' := [(3, .int 0), (2, .int y2700), (0, .ref h0), (1, .int u1)]) hx hb dX12_findForce_60 rfl hl (by decide) rfl (fun ls hl => ?_)
                have L6639 : ∀ (n : Nat), ∀ (f6633 : Nat → va_E) (y6637 : Int32) (m6634 : oR (f6633 h0) 2 = pR) (m6635 : oR (f6633 h0) 29 = a4810) (m6636 : aI (f6633 pR) (3 : Int32).toNatClampNeg = y579) (b6638 : (0 : Int) ≤ y6637.toInt ∧ y6637.toInt ≤ 12) (hm : (13 : Int) - y6637.toInt ≤ n) (H : Heap) (locs : List Loc) (ls : Array Slot), WS G cI cJ cZ cD cR cT A kp L f6633 s H locs → FM kp L ms_X12_findForce f0 f6633 → lv_has ls 5 [(3, .int y6637), (2, .int y2700), (0, .ref h0), (1, .int u1)] → W p l e ({ frames := 3, cells := 0, slots := 0, locals := 81 }) s m ([.ref h0, .int u1] : List Value).toArray below meth c H locs 0 0 (MQ below (QT (po_X12_findForce kp L f0 h0 u1) G cI cJ cZ cD cR cT A kp L) ([.ref h0, .int u1] : List Value).toArray s 0 0 A) (F0 m 61 ls []) := by
                  intro n
                  induction n with
                  | zero =>
                    intro f6633 y6637 m6634 m6635 m6636 b6638 hm H locs ls hW hF hl
                    have hz := i32_b y6637
                    exfalso; omega
                  | succ n ih =>
                    intro f6633 y6637 m6634 m6635 m6636 b6638 hm H locs ls hW hF hl
                    clear b4827
                    have ih61 := ih
                    refine lv_iload_n hx hb dX12_findForce_61 rfl (lv_at hl 0 rfl) ?_
                    refine lv_aload_n hx hb dX12_findForce_62 rfl (lv_at hl 2 rfl) ?_
                    refine fg_RX12_8 E hW rh0 dX12_findForce_63 (fun a6640 m6641 r6642 => ?_)
                    obtain rfl : pR = a6640 := (m6634).symm.trans m6641
                    refine lv_iload_n hx hb dX12_findForce_66 rfl (lv_at hl 1 rfl) ?_
                    refine t_callS (As := [.int y2700]) (rest := [.ref pR, .int y6637]) E hW (c_X12_textAt l G cI cJ cZ cD cR cT kp L f6633 hW.2.2.2 _ y2700 (by omega)) wk_X12_textAt tw_1655 rfl ⟨Nat.le_of_ble_eq_true rfl, Nat.le_of_ble_eq_true rfl⟩ ⟨rfl, rfl⟩ hl.1 rfl (Nat.le_of_ble_eq_true rfl) dX12_findForce_67 ⟨Nat.le_of_ble_eq_true rfl, Nat.le_of_ble_eq_true rfl⟩ (fun v6643 f6644 H locs q6645 hW => ?_)
                    obtain ⟨⟨x6647, rfl, p6648⟩, g6646⟩ := q6645
                    have hF := FM.tr hF g6646 rfl
                    refine lv_iconst (v := 1) hx hb dX12_findForce_70 (by decide) ?_
                    refine q_iadd (Y := 1) hx hb dX12_findForce_71 rfl rfl (by omega) (fun x6649 h6650 => ?_)
                    refine gl_822 E hW rR ⟨by omega, by omega⟩ dX12_findForce_72 (fun y6651 m6652 b6653 => ?_)
                    have b6654 := tx_n (t := y2700) (by rw [fm_A hF rR (by decide) rfl]; exact hTX) (by omega) (by have z : aI (f6644 pR) 3 = y579 := ((congrArg (fun z => aI z (3 : Int32).toNatClampNeg) (fm_A g6646 rR (by decide) rfl)).trans m6636); rw [z]; omega) m6652 (by omega)
                    have J6783 : ∀ (H : Heap) (locs : List Loc) (ls : Array Slot), WS G cI cJ cZ cD cR cT A kp L f6644 s H locs → FM kp L ms_X12_findForce f0 f6644 → lv_has ls 5 [(3, .int y6637), (2, .int y2700), (0, .ref h0), (1, .int u1)] → W p l e ({ frames := 3, cells := 0, slots := 0, locals := 81 }) s m ([.ref h0, .int u1] : List Value).toArray below meth c H locs 0 0 (MQ below (QT (po_X12_findForce kp L f0 h0 u1) G cI cJ cZ cD cR cT A kp L) ([.ref h0, .int u1] : List Value).toArray s 0 0 A) (F0 m 163 ls []) := by
                      intro  H locs ls hW hF hl
                      refine q_iinc hx hb dX12_findForce_163 hl (k := 1) rfl rfl rfl (by omega) (by decide) (fun i6784 ls h6785 hl => ?_)
                      have hl : lv_has ls 5 [(2, .int i6784), (3, .int y6637), (0, .ref h0), (1, .int u1)] := hl
                      refine lv_goto (tgt := 31) hx hb dX12_findForce_166 (by decide) ?_
                      exact ih31 f6644 i6784 ((fm_R g6646 rh0 rfl).trans m6641) ((congrArg (fun z => aI z (3 : Int32).toNatClampNeg) (fm_A g6646 rR (by decide) rfl)).trans m6636) (by omega) (by omega) _ _ _ hW hF (lv_sub hl [0, 2, 3] rfl)
                    refine q_icmp_ge (tgt := 163) hx hb dX12_findForce_73 (by decide) rfl rfl (fun c6786 => ?_) (fun c6786 => ?_)
                    · exact J6783   _ _ _ hW hF (lv_sub hl [0, 1, 2, 3] rfl)
                    · refine lv_aload_n hx hb dX12_findForce_76 rfl (lv_at hl 2 rfl) ?_
                      refine fg_RX12_54 E hW rh0 dX12_findForce_77 (fun a6787 m6788 r6789 => ?_)
                      obtain rfl : a4810 = a6787 := (((fm_R g6646 rh0 rfl).trans m6635)).symm.trans m6788
                      refine lv_iload_n hx hb dX12_findForce_80 rfl (lv_at hl 1 rfl) ?_
                      refine gl_849 E hW r4812 ⟨by omega, by omega⟩ dX12_findForce_81 (fun y6790 m6791 b6792 => ?_)
                      refine q_if_eq (tgt := 163) hx hb dX12_findForce_82 (by decide) rfl (fun c6793 => ?_) (fun c6793 => ?_)
                      · exact J6783   _ _ _ hW hF (lv_sub hl [0, 1, 2, 3] rfl)
                      · refine lv_iload_n hx hb dX12_findForce_85 rfl (lv_at hl 1 rfl) ?_
                        refine lv_iload_n hx hb dX12_findForce_86 rfl (lv_at hl 0 rfl) ?_
                        refine t_callS (As := [.int y2700, .int y6637]) (rest := []) E hW (c_X12_clauseAt l G cI cJ cZ cD cR cT kp L f6644 hW.2.2.2 _ y2700 y6637 (by omega) (by omega)) wk_X12_clauseAt tw_1658 rfl ⟨Nat.le_of_ble_eq_true rfl, Nat.le_of_ble_eq_true rfl⟩ ⟨rfl, rfl⟩ hl.1 rfl (Nat.le_of_ble_eq_true rfl) dX12_findForce_87 ⟨Nat.le_of_ble_eq_true rfl, Nat.le_of_ble_eq_true rfl⟩ (fun v6794 f6795 H locs q6796 hW => ?_)
                        obtain ⟨⟨x6798, rfl, p6799⟩, g6797⟩ := q6796
                        have hF := FM.tr hF g6797 rfl
                        refine lv_istore (lv' := [(4, .int x6798), (3, .int y6637), (2, .int y2700), (0, .ref h0), (1, .int u1)]) hx hb dX12_findForce_90 hl (by decide) rfl (fun ls hl => ?_)
                        refine lv_aload_n hx hb dX12_findForce_92 rfl (lv_at hl 3 rfl) ?_
                        refine fg_RX12_8 E hW rh0 dX12_findForce_93 (fun a6800 m6801 r6802 => ?_)
                        obtain rfl : pR = a6800 := (((fm_R g6797 rh0 rfl).trans ((fm_R g6646 rh0 rfl).trans m6641))).symm.trans m6801
                        refine lv_iload hx hb dX12_findForce_96 (lv_at hl 0 rfl) ?_
                        refine gl_822 E hW rR ⟨by omega, by omega⟩ dX12_findForce_98 (fun y6803 m6804 b6805 => ?_)
                        have J6861 : ∀ (f6857 : Nat → va_E) (m6858 : oR (f6857 h0) 2 = pR) (m6859 : oR (f6857 h0) 29 = a4810) (m6860 : aI (f6857 pR) (3 : Int32).toNatClampNeg = y579) (H : Heap) (locs : List Loc) (ls : Array Slot), WS G cI cJ cZ cD cR cT A kp L f6857 s H locs → FM kp L ms_X12_findForce f0 f6857 → lv_has ls 5 [(4, .int x6798), (3, .int y6637), (2, .int y2700), (0, .ref h0), (1, .int u1)] → W p l e ({ frames := 3, cells := 0, slots := 0, locals := 81 }) s m ([.ref h0, .int u1] : List Value).toArray below meth c H locs 0 0 (MQ below (QT (po_X12_findForce kp L f0 h0 u1) G cI cJ cZ cD cR cT A kp L) ([.ref h0, .int u1] : List Value).toArray s 0 0 A) (F0 m 157 ls []) := by
                          intro f6857 m6858 m6859 m6860 H locs ls hW hF hl
                          clear b6792 c6793
                          refine q_iinc hx hb dX12_findForce_157 hl (k := 1) rfl rfl rfl (by omega) (by decide) (fun i6862 ls h6863 hl => ?_)
                          have hl : lv_has ls 5 [(3, .int i6862), (4, .int x6798), (2, .int y2700), (0, .ref h0), (1, .int u1)] := hl
                          refine lv_goto (tgt := 61) hx hb dX12_findForce_160 (by decide) ?_
                          exact ih61 f6857 i6862 m6858 m6859 m6860 (by omega) (by omega) _ _ _ hW hF (lv_sub hl [0, 2, 3, 4] rfl)
                        refine q_if_ne (tgt := 157) hx hb dX12_findForce_99 (by decide) rfl (fun c6864 => ?_) (fun c6864 => ?_)
                        · exact J6861 f6795 m6801 ((fm_R g6797 rh0 rfl).trans m6788) ((congrArg (fun z => aI z (3 : Int32).toNatClampNeg) (fm_A g6797 rR (by decide) rfl)).trans ((congrArg (fun z => aI z (3 : Int32).toNatClampNeg) (fm_A g6646 rR (by decide) rfl)).trans m6636)) _ _ _ hW hF (lv_sub hl [0, 1, 2, 3, 4] rfl)
                        · refine lv_aload_n hx hb dX12_findForce_102 rfl (lv_at hl 3 rfl) ?_
                          refine fg_RX12_57 E hW rh0 dX12_findForce_103 (fun a6865 m6866 r6867 => ?_)
                          refine lv_bipush (v := 12) hx hb dX12_findForce_106 (by decide) ?_
                          refine lv_iload_n hx hb dX12_findForce_108 rfl (lv_at hl 2 rfl) ?_
                          refine q_imul (X := 12) hx hb dX12_findForce_109 rfl rfl (by omega) (fun x6868 h6869 => ?_)
                          refine lv_iload_n hx hb dX12_findForce_110 rfl (lv_at hl 1 rfl) ?_
                          refine q_iadd hx hb dX12_findForce_111 rfl rfl (by omega) (fun x6870 h6871 => ?_)
                          refine gl_850 E hW r6867 ⟨by omega, by omega⟩ dX12_findForce_112 (fun y6872 m6873 b6874 => ?_)
                          refine q_if_ne (tgt := 157) hx hb dX12_findForce_113 (by decide) rfl (fun c6875 => ?_) (fun c6875 => ?_)
                          · exact J6861 f6795 m6801 ((fm_R g6797 rh0 rfl).trans m6788) ((congrArg (fun z => aI z (3 : Int32).toNatClampNeg) (fm_A g6797 rR (by decide) rfl)).trans ((congrArg (fun z => aI z (3 : Int32).toNatClampNeg) (fm_A g6646 rR (by decide) rfl)).trans m6636)) _ _ _ hW hF (lv_sub hl [0, 1, 2, 3, 4] rfl)
                          · refine lv_aload_n hx hb dX12_findForce_116 rfl (lv_at hl 3 rfl) ?_
                            refine fg_RX12_8 E hW rh0 dX12_findForce_117 (fun a6876 m6877 r6878 => ?_)
                            obtain rfl : pR = a6876 := (m6801).symm.trans m6877
                            refine lv_iload hx hb dX12_findForce_120 (lv_at hl 0 rfl) ?_
                            refine lv_iconst (v := 1) hx hb dX12_findForce_122 (by decide) ?_
                            refine q_iadd (Y := 1) hx hb dX12_findForce_123 rfl rfl (by omega) (fun x6879 h6880 => ?_)
                            refine gl_822 E hW rR ⟨by omega, by omega⟩ dX12_findForce_124 (fun y6881 m6882 b6883 => ?_)
                            have b6884 := tx_s (t := y2700) (c := y6637) (by rw [fm_A hF rR (by decide) rfl]; exact hTX) (by omega) (by have z : aI (f6795 pR) 3 = y579 := ((congrArg (fun z => aI z (3 : Int32).toNatClampNeg) (fm_A g6797 rR (by decide) rfl)).trans ((congrArg (fun z => aI z (3 : Int32).toNatClampNeg) (fm_A g6646 rR (by decide) rfl)).trans m6636)); rw [z]; omega) ((congrArg (fun z => aI z (x6649 : Int32).toNatClampNeg) (fm_A g6797 rR (by decide) rfl)).trans m6652) (by omega) ⟨by omega, by omega⟩ m6804 (by omega) (by omega) m6882 (by omega)
                            refine lv_iload_n hx hb dX12_findForce_125 rfl (lv_at hl 2 rfl) ?_
                            refine q_icmp_ge (tgt := 157) hx hb dX12_findForce_126 (by decide) rfl rfl (fun c6885 => ?_) (fun c6885 => ?_)
                            · exact J6861 f6795 m6877 ((fm_R g6797 rh0 rfl).trans m6788) ((congrArg (fun z => aI z (3 : Int32).toNatClampNeg) (fm_A g6797 rR (by decide) rfl)).trans ((congrArg (fun z => aI z (3 : Int32).toNatClampNeg) (fm_A g6646 rR (by decide) rfl)).trans m6636)) _ _ _ hW hF (lv_sub hl [0, 1, 2, 3, 4] rfl)
                            · refine lv_aload_n hx hb dX12_findForce_129 rfl (lv_at hl 3 rfl) ?_
                              refine fg_RX12_57 E hW rh0 dX12_findForce_130 (fun a6886 m6887 r6888 => ?_)
                              obtain rfl : a6865 = a6886 := (m6866).symm.trans m6887
                              refine lv_bipush (v := 12) hx hb dX12_findForce_133 (by decide) ?_
                              refine lv_aload_n hx hb dX12_findForce_135 rfl (lv_at hl 3 rfl) ?_
                              refine fg_RX12_8 E hW rh0 dX12_findForce_136 (fun a6889 m6890 r6891 => ?_)
                              obtain rfl : pR = a6889 := (m6877).symm.trans m6890
                              refine lv_iload hx hb dX12_findForce_139 (lv_at hl 0 rfl) ?_
                              refine lv_iconst (v := 1) hx hb dX12_findForce_141 (by decide) ?_
                              refine q_iadd (Y := 1) hx hb dX12_findForce_142 rfl rfl (by omega) (fun x6892 h6893 => ?_)
                              refine gl_822 E hW rR ⟨by omega, by omega⟩ dX12_findForce_143 (fun y6894 m6895 b6896 => ?_)
                              have b6897 := tx_s (t := y2700) (c := y6637) (by rw [fm_A hF rR (by decide) rfl]; exact hTX) (by omega) (by have z : aI (f6795 pR) 3 = y579 := ((congrArg (fun z => aI z (3 : Int32).toNatClampNeg) (fm_A g6797 rR (by decide) rfl)).trans ((congrArg (fun z => aI z (3 : Int32).toNatClampNeg) (fm_A g6646 rR (by decide) rfl)).trans m6636)); rw [z]; omega) ((congrArg (fun z => aI z (x6649 : Int32).toNatClampNeg) (fm_A g6797 rR (by decide) rfl)).trans m6652) (by omega) ⟨by omega, by omega⟩ m6804 (by omega) (by omega) m6895 (by omega)
                              refine q_imul (X := 12) hx hb dX12_findForce_144 rfl rfl (by omega) (fun x6898 h6899 => ?_)
                              refine lv_aload_n hx hb dX12_findForce_145 rfl (lv_at hl 3 rfl) ?_
                              refine fg_RX12_8 E hW rh0 dX12_findForce_146 (fun a6900 m6901 r6902 => ?_)
                              obtain rfl : pR = a6900 := (m6890).symm.trans m6901
                              refine lv_iload hx hb dX12_findForce_149 (lv_at hl 0 rfl) ?_
                              refine lv_iconst (v := 2) hx hb dX12_findForce_151 (by decide) ?_
                              refine q_iadd (Y := 2) hx hb dX12_findForce_152 rfl rfl (by omega) (fun x6903 h6904 => ?_)
                              refine gl_822 E hW rR ⟨by omega, by omega⟩ dX12_findForce_153 (fun y6905 m6906 b6907 => ?_)
                              have b6908 := tx_s (t := y2700) (c := y6637) (by rw [fm_A hF rR (by decide) rfl]; exact hTX) (by omega) (by have z : aI (f6795 pR) 3 = y579 := ((congrArg (fun z => aI z (3 : Int32).toNatClampNeg) (fm_A g6797 rR (by decide) rfl)).trans ((congrArg (fun z => aI z (3 : Int32).toNatClampNeg) (fm_A g6646 rR (by decide) rfl)).trans m6636)); rw [z]; omega) ((congrArg (fun z => aI z (x6649 : Int32).toNatClampNeg) (fm_A g6797 rR (by decide) rfl)).trans m6652) (by omega) ⟨by omega, by omega⟩ m6804 (by omega) (by omega) m6906 (by omega)
                              refine q_iadd hx hb dX12_findForce_154 rfl rfl (by omega) (fun x6909 h6910 => ?_)
                              refine lv_iconst (v := 1) hx hb dX12_findForce_155 (by decide) ?_
                              refine gs_850 E hW r6867 ⟨by omega, by omega⟩ (by decide) dX12_findForce_156 (fun f6911 H locs e6912 n6913 g6914 hW => ?_)
                              have hF := FM.tr hF g6914 rfl
                              exact J6861 f6911 ((fm_R g6914 rh0 rfl).trans m6901) ((fm_R g6914 rh0 rfl).trans ((fm_R g6797 rh0 rfl).trans m6788)) ((congrArg (fun z => aI z (3 : Int32).toNatClampNeg) (fm_A g6914 rR (by decide) rfl)).trans ((congrArg (fun z => aI z (3 : Int32).toNatClampNeg) (fm_A g6797 rR (by decide) rfl)).trans ((congrArg (fun z => aI z (3 : Int32).toNatClampNeg) (fm_A g6646 rR (by decide) rfl)).trans m6636))) _ _ _ hW hF (lv_sub hl [0, 1, 2, 3, 4] rfl)
                have hk6915 : (0 : Int32).toInt = 0 := rfl
                exact L6639 13 f4829 0 ((fm_R g4832 rh0 rfl).trans ((fm_R g4819 rh0 rfl).trans m4814)) ((fm_R g4832 rh0 rfl).trans ((fm_R g4819 rh0 rfl).trans m4811)) ((congrArg (fun z => aI z (3 : Int32).toNatClampNeg) (fm_A g4832 rR (by decide) rfl)).trans ((congrArg (fun z => aI z (3 : Int32).toNatClampNeg) (fm_A g4819 rR (by decide) rfl)).trans m2699)) (by decide) (by omega) _ _ _ hW hF (lv_sub hl [0, 1, 2, 3] rfl)
              refine q_icmp_gt (tgt := 57) hx hb dX12_findForce_50 (by decide) rfl rfl (fun c6916 => ?_) (fun c6916 => ?_)
              · refine lv_iconst (v := 0) hx hb dX12_findForce_57 (by decide) ?_
                exact J4828 0 (by decide) _ _ _ hW hF (lv_sub hl [0, 1, 2] rfl)
              · refine lv_iconst (v := 1) hx hb dX12_findForce_53 (by decide) ?_
                refine lv_goto (tgt := 58) hx hb dX12_findForce_54 (by decide) ?_
                exact J4828 1 (by decide) _ _ _ hW hF (lv_sub hl [0, 1, 2] rfl)
        exact L2702 21 f561 x583 m577 m580 (by omega) (by omega) _ _ _ hW hF (lv_sub hl [0, 1, 2] rfl)
      · refine lv_aload_n hx hb dX12_findForce_9 rfl (lv_at hl 1 rfl) ?_
        refine fg_RX12_57 E hW rh0 dX12_findForce_10 (fun a6917 m6918 r6919 => ?_)
        refine lv_iload_n hx hb dX12_findForce_13 rfl (lv_at hl 0 rfl) ?_
        refine lv_iconst (v := 0) hx hb dX12_findForce_14 (by decide) ?_
        refine gs_850 E hW r6919 ⟨by omega, by omega⟩ (by decide) dX12_findForce_15 (fun f6920 H locs e6921 n6922 g6923 hW => ?_)
        have hF := FM.tr hF g6923 rfl
        refine q_iinc hx hb dX12_findForce_16 hl (k := 0) rfl rfl rfl (by omega) (by decide) (fun i6924 ls h6925 hl => ?_)
        have hl : lv_has ls 5 [(2, .int i6924), (0, .ref h0), (1, .int u1)] := hl
        refine lv_goto (tgt := 2) hx hb dX12_findForce_19 (by decide) ?_
        exact ih2 f6920 i6924 ((fm_R g6923 rh0 rfl).trans m562) (by omega) (by omega) _ _ _ hW hF (lv_sub hl [0, 1, 2] rfl)
  have hk6926 : (0 : Int32).toInt = 0 := rfl
  exact L565 241 f0 0 mR (by decide) (by omega) _ _ _ hW hF (lv_sub hl [0, 1, 2] rfl)
def ms_X12_forceNow : List (Nat × Nat) := [(849, 0), (850, 0)]
def po_X12_forceNow (kp : Nat → Nat) (L : List Nat) (f0 : Nat → va_E) (h0 : Nat) : Option Value → (Nat → va_E) → Prop := fun v f => v = none ∧ FM kp L ms_X12_forceNow f0 f
set_option maxHeartbeats 4000000 in
set_option maxRecDepth 100000 in
theorem c_X12_forceNow (l : Launch) (G : va_G) (cI cJ cZ cD cR cT : ClassId) (kp : Nat → Nat) (L : List Nat) (f0 : Nat → va_E) (hTH : TH cI cJ cZ cD cR cT kp L f0) (sz : Nat) (h0 : Nat) (rh0 : RK kp L h0 12) (hTX : TX (aI (f0 (oR (f0 h0) 2)))) : Met l yX12_forceNow (Cond.code yX12_forceNow cX12_forceNow 1 none :: wTab) ({ frames := 4, cells := 0, slots := 0, locals := 105 }) (va_Pc [.ref h0] (PreW G (tys6 cI cJ cZ cD cR cT) (va_pl L f0) sz)) (QT (po_X12_forceNow kp L f0 h0) G cI cJ cZ cD cR cT (va_A (va_pl L f0) sz) kp L) 0 0 (va_A (va_pl L f0) sz) := by
  refine metT (by decide) (Nat.le_of_ble_eq_true rfl) hTH ?_
  intro p e s m below meth c A ls E hW hl
  obtain ⟨hx, hb, -, hml, hown, hts, -, -, -⟩ := id E
  have hF : FM kp L ms_X12_forceNow f0 f0 := FM.rf
  have hl : lv_has ls 1 [(0, .ref h0)] := hl
  obtain ⟨pR, mR⟩ : ∃ x : Nat, oR (f0 h0) 2 = x := ⟨_, rfl⟩
  have rR : RK kp L pR 822 := by rw [← mR]; exact th_ref hTH rh0 (by decide) (by decide) rfl
  rw [mR] at hTX
  refine lv_aload_n hx hb dX12_forceNow_0 rfl (lv_at hl 0 rfl) ?_
  refine lv_aload_n hx hb dX12_forceNow_1 rfl (lv_at hl 0 rfl) ?_
  refine fg_RX12_8 E hW rh0 dX12_forceNow_2 (fun a1 m2 r3 => ?_)
  obtain rfl : pR = a1 := (mR).symm.trans m2
  refine lv_bipush (v := 8) hx hb dX12_forceNow_5 (by decide) ?_
  refine gl_822 E hW rR (by decide) dX12_forceNow_7 (fun y4 m5 b6 => ?_)
  have b7 := rr_8 (show RowInv _ from b6) m5 (by decide)
  refine t_callV (As := [.int y4]) (rest := []) E hW (c_X12_findForce l G cI cJ cZ cD cR cT kp L f0 hW.2.2.2 _ h0 y4 rh0 (by omega) (by rw [m2]; exact hTX)) rh0 (by decide) rfl wk_X12_findForce tw_1651 rfl ⟨Nat.le_of_ble_eq_true rfl, Nat.le_of_ble_eq_true rfl⟩ ⟨rfl, rfl⟩ hl.1 rfl (Nat.le_of_ble_eq_true rfl) dX12_forceNow_8 ⟨Nat.le_of_ble_eq_true rfl, Nat.le_of_ble_eq_true rfl⟩ (fun v8 f9 H locs q10 hW => ?_)
  obtain ⟨rfl, g11⟩ := q10
  have hF := FM.tr hF g11 rfl
  exact e_V E hW rfl ⟨rfl, hF⟩ dX12_forceNow_11
def ms_X12_stepWeeks : List (Nat × Nat) := []
def po_X12_stepWeeks (kp : Nat → Nat) (L : List Nat) (f0 : Nat → va_E) (h0 : Nat) (u1 : Int32) : Option Value → (Nat → va_E) → Prop := fun v f => (∃ r : Int32, v = some (.int r) ∧ (True)) ∧ FM kp L ms_X12_stepWeeks f0 f
set_option maxHeartbeats 4000000 in
set_option maxRecDepth 100000 in
theorem c_X12_stepWeeks (l : Launch) (G : va_G) (cI cJ cZ cD cR cT : ClassId) (kp : Nat → Nat) (L : List Nat) (f0 : Nat → va_E) (hTH : TH cI cJ cZ cD cR cT kp L f0) (sz : Nat) (h0 : Nat) (u1 : Int32) (rh0 : RK kp L h0 12) (hTX : TX (aI (f0 (oR (f0 h0) 2)))) : Met l yX12_stepWeeks (Cond.code yX12_stepWeeks cX12_stepWeeks 6 (some .int) :: wTab) ({ frames := 3, cells := 0, slots := 0, locals := 81 }) (va_Pc [.ref h0, .int u1] (PreW G (tys6 cI cJ cZ cD cR cT) (va_pl L f0) sz)) (QT (po_X12_stepWeeks kp L f0 h0 u1) G cI cJ cZ cD cR cT (va_A (va_pl L f0) sz) kp L) 0 0 (va_A (va_pl L f0) sz) := by
  refine metT (by decide) (Nat.le_of_ble_eq_true rfl) hTH ?_
  intro p e s m below meth c A ls E hW hl
  obtain ⟨hx, hb, -, hml, hown, hts, -, -, -⟩ := id E
  have hF : FM kp L ms_X12_stepWeeks f0 f0 := FM.rf
  have hl : lv_has ls 6 [(0, .ref h0), (1, .int u1)] := hl
  obtain ⟨pR, mR⟩ : ∃ x : Nat, oR (f0 h0) 2 = x := ⟨_, rfl⟩
  have rR : RK kp L pR 822 := by rw [← mR]; exact th_ref hTH rh0 (by decide) (by decide) rfl
  rw [mR] at hTX
  refine lv_iconst (v := 4) hx hb dX12_stepWeeks_0 (by decide) ?_
  refine lv_istore_n (lv' := [(2, .int 4), (0, .ref h0), (1, .int u1)]) hx hb dX12_stepWeeks_1 rfl hl (by decide) rfl (fun ls hl => ?_)
  refine lv_iconst (v := 0) hx hb dX12_stepWeeks_2 (by decide) ?_
  refine lv_istore_n (lv' := [(3, .int 0), (2, .int 4), (0, .ref h0), (1, .int u1)]) hx hb dX12_stepWeeks_3 rfl hl (by decide) rfl (fun ls hl => ?_)
  have L24082 : ∀ (n : Nat), ∀ (f24077 : Nat → va_E) (y24079 : Int32) (y24081 : Int32) (m24078 : oR (f24077 h0) 2 = pR) (b24080 : (0 : Int) ≤ y24079.toInt ∧ y24079.toInt ≤ 20) (hm : (21 : Int) - y24079.toInt ≤ n) (H : Heap) (locs : List Loc) (ls : Array Slot), WS G cI cJ cZ cD cR cT A kp L f24077 s H locs → FM kp L ms_X12_stepWeeks f0 f24077 → lv_has ls 6 [(3, .int y24079), (2, .int y24081), (0, .ref h0), (1, .int u1)] → W p l e ({ frames := 3, cells := 0, slots := 0, locals := 81 }) s m ([.ref h0, .int u1] : List Value).toArray below meth c H locs 0 0 (MQ below (QT (po_X12_stepWeeks kp L f0 h0 u1) G cI cJ cZ cD cR cT A kp L) ([.ref h0, .int u1] : List Value).toArray s 0 0 A) (F0 m 4 ls []) := by
    intro n
    induction n with
    | zero =>
      intro f24077 y24079 y24081 m24078 b24080 hm H locs ls hW hF hl
      have hz := i32_b y24079
      exfalso; omega
    | succ n ih =>
      intro f24077 y24079 y24081 m24078 b24080 hm H locs ls hW hF hl
      have ih4 := ih
      refine lv_iload_n hx hb dX12_stepWeeks_4 rfl (lv_at hl 0 rfl) ?_
      refine lv_aload_n hx hb dX12_stepWeeks_5 rfl (lv_at hl 2 rfl) ?_
      refine fg_RX12_8 E hW rh0 dX12_stepWeeks_6 (fun a24083 m24084 r24085 => ?_)
      obtain rfl : pR = a24083 := (m24078).symm.trans m24084
      refine lv_iconst (v := 3) hx hb dX12_stepWeeks_9 (by decide) ?_
      refine gl_822 E hW rR (by decide) dX12_stepWeeks_10 (fun y24086 m24087 b24088 => ?_)
      have b24089 := rr_3 (show RowInv _ from b24088) m24087 (by decide)
      refine q_icmp_ge (tgt := 101) hx hb dX12_stepWeeks_11 (by decide) rfl rfl (fun c25493 => ?_) (fun c25493 => ?_)
      · refine lv_iload_n hx hb dX12_stepWeeks_101 rfl (lv_at hl 1 rfl) ?_
        exact e_I E hW rfl ⟨⟨_, rfl, trivial⟩, hF⟩ dX12_stepWeeks_102
      · refine lv_iconst (v := 0) hx hb dX12_stepWeeks_14 (by decide) ?_
        refine lv_istore (lv' := [(4, .int 0), (3, .int y24079), (2, .int y24081), (0, .ref h0), (1, .int u1)]) hx hb dX12_stepWeeks_15 hl (by decide) rfl (fun ls hl => ?_)
        have L26732 : ∀ (n : Nat), ∀ (f26726 : Nat → va_E) (y26729 : Int32) (y26731 : Int32) (m26727 : oR (f26726 h0) 2 = pR) (m26728 : aI (f26726 pR) (3 : Int32).toNatClampNeg = y24086) (b26730 : (0 : Int) ≤ y26729.toInt ∧ y26729.toInt ≤ 12) (hm : (13 : Int) - y26729.toInt ≤ n) (H : Heap) (locs : List Loc) (ls : Array Slot), WS G cI cJ cZ cD cR cT A kp L f26726 s H locs → FM kp L ms_X12_stepWeeks f0 f26726 → lv_has ls 6 [(4, .int y26729), (3, .int y24079), (2, .int y26731), (0, .ref h0), (1, .int u1)] → W p l e ({ frames := 3, cells := 0, slots := 0, locals := 81 }) s m ([.ref h0, .int u1] : List Value).toArray below meth c H locs 0 0 (MQ below (QT (po_X12_stepWeeks kp L f0 h0 u1) G cI cJ cZ cD cR cT A kp L) ([.ref h0, .int u1] : List Value).toArray s 0 0 A) (F0 m 17 ls []) := by
          intro n
          induction n with
          | zero =>
            intro f26726 y26729 y26731 m26727 m26728 b26730 hm H locs ls hW hF hl
            have hz := i32_b y26729
            exfalso; omega
          | succ n ih =>
            intro f26726 y26729 y26731 m26727 m26728 b26730 hm H locs ls hW hF hl
            have ih17 := ih
            refine lv_iload hx hb dX12_stepWeeks_17 (lv_at hl 0 rfl) ?_
            refine lv_aload_n hx hb dX12_stepWeeks_19 rfl (lv_at hl 3 rfl) ?_
            refine fg_RX12_8 E hW rh0 dX12_stepWeeks_20 (fun a26733 m26734 r26735 => ?_)
            obtain rfl : pR = a26733 := (m26727).symm.trans m26734
            refine lv_iload_n hx hb dX12_stepWeeks_23 rfl (lv_at hl 1 rfl) ?_
            refine t_callS (As := [.int y24079]) (rest := [.ref pR, .int y26729]) E hW (c_X12_textAt l G cI cJ cZ cD cR cT kp L f26726 hW.2.2.2 _ y24079 (by omega)) wk_X12_textAt tw_1655 rfl ⟨Nat.le_of_ble_eq_true rfl, Nat.le_of_ble_eq_true rfl⟩ ⟨rfl, rfl⟩ hl.1 rfl (Nat.le_of_ble_eq_true rfl) dX12_stepWeeks_24 ⟨Nat.le_of_ble_eq_true rfl, Nat.le_of_ble_eq_true rfl⟩ (fun v26736 f26737 H locs q26738 hW => ?_)
            obtain ⟨⟨x26740, rfl, p26741⟩, g26739⟩ := q26738
            have hF := FM.tr hF g26739 rfl
            refine lv_iconst (v := 1) hx hb dX12_stepWeeks_27 (by decide) ?_
            refine q_iadd (Y := 1) hx hb dX12_stepWeeks_28 rfl rfl (by omega) (fun x26742 h26743 => ?_)
            refine gl_822 E hW rR ⟨by omega, by omega⟩ dX12_stepWeeks_29 (fun y26744 m26745 b26746 => ?_)
            have b26747 := tx_n (t := y24079) (by rw [fm_A hF rR (by decide) rfl]; exact hTX) (by omega) (by have z : aI (f26737 pR) 3 = y24086 := ((congrArg (fun z => aI z (3 : Int32).toNatClampNeg) (fm_A g26739 rR (by decide) rfl)).trans m26728); rw [z]; omega) m26745 (by omega)
            refine q_icmp_ge (tgt := 95) hx hb dX12_stepWeeks_30 (by decide) rfl rfl (fun c26821 => ?_) (fun c26821 => ?_)
            · refine q_iinc hx hb dX12_stepWeeks_95 hl (k := 1) rfl rfl rfl (by omega) (by decide) (fun i26822 ls h26823 hl => ?_)
              have hl : lv_has ls 6 [(3, .int i26822), (4, .int y26729), (2, .int y26731), (0, .ref h0), (1, .int u1)] := hl
              refine lv_goto (tgt := 4) hx hb dX12_stepWeeks_98 (by decide) ?_
              exact ih4 f26737 i26822 y26731 ((fm_R g26739 rh0 rfl).trans m26734) (by omega) (by omega) _ _ _ hW hF (lv_sub hl [0, 2, 3, 4] rfl)
            · refine lv_iload_n hx hb dX12_stepWeeks_33 rfl (lv_at hl 1 rfl) ?_
              refine lv_iload hx hb dX12_stepWeeks_34 (lv_at hl 0 rfl) ?_
              refine t_callS (As := [.int y24079, .int y26729]) (rest := []) E hW (c_X12_clauseAt l G cI cJ cZ cD cR cT kp L f26737 hW.2.2.2 _ y24079 y26729 (by omega) (by omega)) wk_X12_clauseAt tw_1658 rfl ⟨Nat.le_of_ble_eq_true rfl, Nat.le_of_ble_eq_true rfl⟩ ⟨rfl, rfl⟩ hl.1 rfl (Nat.le_of_ble_eq_true rfl) dX12_stepWeeks_36 ⟨Nat.le_of_ble_eq_true rfl, Nat.le_of_ble_eq_true rfl⟩ (fun v26824 f26825 H locs q26826 hW => ?_)
              obtain ⟨⟨x26828, rfl, p26829⟩, g26827⟩ := q26826
              have hF := FM.tr hF g26827 rfl
              refine lv_istore (lv' := [(5, .int x26828), (4, .int y26729), (3, .int y24079), (2, .int y26731), (0, .ref h0), (1, .int u1)]) hx hb dX12_stepWeeks_39 hl (by decide) rfl (fun ls hl => ?_)
              refine lv_aload_n hx hb dX12_stepWeeks_41 rfl (lv_at hl 4 rfl) ?_
              refine fg_RX12_8 E hW rh0 dX12_stepWeeks_42 (fun a26830 m26831 r26832 => ?_)
              obtain rfl : pR = a26830 := (((fm_R g26827 rh0 rfl).trans ((fm_R g26739 rh0 rfl).trans m26734))).symm.trans m26831
              refine lv_iload hx hb dX12_stepWeeks_45 (lv_at hl 0 rfl) ?_
              refine gl_822 E hW rR ⟨by omega, by omega⟩ dX12_stepWeeks_47 (fun y26833 m26834 b26835 => ?_)
              refine lv_iconst (v := 1) hx hb dX12_stepWeeks_48 (by decide) ?_
              have J26867 : ∀ (f26863 : Nat → va_E) (y26866 : Int32) (m26864 : oR (f26863 h0) 2 = pR) (m26865 : aI (f26863 pR) (3 : Int32).toNatClampNeg = y24086) (H : Heap) (locs : List Loc) (ls : Array Slot), WS G cI cJ cZ cD cR cT A kp L f26863 s H locs → FM kp L ms_X12_stepWeeks f0 f26863 → lv_has ls 6 [(5, .int x26828), (4, .int y26729), (3, .int y24079), (2, .int y26731), (0, .ref h0), (1, .int u1)] → W p l e ({ frames := 3, cells := 0, slots := 0, locals := 81 }) s m ([.ref h0, .int u1] : List Value).toArray below meth c H locs 0 0 (MQ below (QT (po_X12_stepWeeks kp L f0 h0 u1) G cI cJ cZ cD cR cT A kp L) ([.ref h0, .int u1] : List Value).toArray s 0 0 A) (F0 m 88 ls [.int y26866]) := by
                intro f26863 y26866 m26864 m26865 H locs ls hW hF hl
                refine lv_istore_n (lv' := [(2, .int y26866), (5, .int x26828), (4, .int y26729), (3, .int y24079), (0, .ref h0), (1, .int u1)]) hx hb dX12_stepWeeks_88 rfl hl (by decide) rfl (fun ls hl => ?_)
                refine q_iinc hx hb dX12_stepWeeks_89 hl (k := 2) rfl rfl rfl (by omega) (by decide) (fun i26868 ls h26869 hl => ?_)
                have hl : lv_has ls 6 [(4, .int i26868), (2, .int y26866), (5, .int x26828), (3, .int y24079), (0, .ref h0), (1, .int u1)] := hl
                refine lv_goto (tgt := 17) hx hb dX12_stepWeeks_92 (by decide) ?_
                exact ih17 f26863 i26868 y26866 m26864 m26865 (by omega) (by omega) _ _ _ hW hF (lv_sub hl [0, 3, 1, 4, 5] rfl)
              refine q_icmp_ne (Y := 1) (tgt := 87) hx hb dX12_stepWeeks_49 (by decide) rfl rfl (fun c26870 => ?_) (fun c26870 => ?_)
              · refine lv_iload_n hx hb dX12_stepWeeks_87 rfl (lv_at hl 3 rfl) ?_
                exact J26867 f26825 y26731 m26831 ((congrArg (fun z => aI z (3 : Int32).toNatClampNeg) (fm_A g26827 rR (by decide) rfl)).trans ((congrArg (fun z => aI z (3 : Int32).toNatClampNeg) (fm_A g26739 rR (by decide) rfl)).trans m26728)) _ _ _ hW hF (lv_sub hl [0, 1, 2, 3, 4, 5] rfl)
              · refine lv_aload_n hx hb dX12_stepWeeks_52 rfl (lv_at hl 4 rfl) ?_
                refine fg_RX12_8 E hW rh0 dX12_stepWeeks_53 (fun a26871 m26872 r26873 => ?_)
                obtain rfl : pR = a26871 := (m26831).symm.trans m26872
                refine lv_iload hx hb dX12_stepWeeks_56 (lv_at hl 0 rfl) ?_
                refine lv_iconst (v := 1) hx hb dX12_stepWeeks_58 (by decide) ?_
                refine q_iadd (Y := 1) hx hb dX12_stepWeeks_59 rfl rfl (by omega) (fun x26874 h26875 => ?_)
                refine gl_822 E hW rR ⟨by omega, by omega⟩ dX12_stepWeeks_60 (fun y26876 m26877 b26878 => ?_)
                refine lv_iload_n hx hb dX12_stepWeeks_61 rfl (lv_at hl 5 rfl) ?_
                refine q_icmp_ne (tgt := 87) hx hb dX12_stepWeeks_62 (by decide) rfl rfl (fun c26880 => ?_) (fun c26880 => ?_)
                · refine lv_iload_n hx hb dX12_stepWeeks_87 rfl (lv_at hl 3 rfl) ?_
                  exact J26867 f26825 y26731 m26872 ((congrArg (fun z => aI z (3 : Int32).toNatClampNeg) (fm_A g26827 rR (by decide) rfl)).trans ((congrArg (fun z => aI z (3 : Int32).toNatClampNeg) (fm_A g26739 rR (by decide) rfl)).trans m26728)) _ _ _ hW hF (lv_sub hl [0, 1, 2, 3, 4, 5] rfl)
                · refine lv_aload_n hx hb dX12_stepWeeks_65 rfl (lv_at hl 4 rfl) ?_
                  refine lv_iload_n hx hb dX12_stepWeeks_66 rfl (lv_at hl 2 rfl) ?_
                  refine lv_iload hx hb dX12_stepWeeks_67 (lv_at hl 1 rfl) ?_
                  refine t_callV (As := [.int y24079, .int y26729]) (rest := []) E hW (c_X12_isIn l G cI cJ cZ cD cR cT kp L f26825 hW.2.2.2 _ h0 y24079 y26729 rh0 (by omega) (by omega)) rh0 (by decide) rfl wk_X12_isIn tw_1685 rfl ⟨Nat.le_of_ble_eq_true rfl, Nat.le_of_ble_eq_true rfl⟩ ⟨rfl, rfl⟩ hl.1 rfl (Nat.le_of_ble_eq_true rfl) dX12_stepWeeks_69 ⟨Nat.le_of_ble_eq_true rfl, Nat.le_of_ble_eq_true rfl⟩ (fun v26881 f26882 H locs q26883 hW => ?_)
                  obtain ⟨⟨x26885, rfl, p26886⟩, g26884⟩ := q26883
                  have hF := FM.tr hF g26884 rfl
                  refine q_if_eq (tgt := 87) hx hb dX12_stepWeeks_72 (by decide) rfl (fun c26887 => ?_) (fun c26887 => ?_)
                  · refine lv_iload_n hx hb dX12_stepWeeks_87 rfl (lv_at hl 3 rfl) ?_
                    exact J26867 f26882 y26731 ((fm_R g26884 rh0 rfl).trans m26872) ((congrArg (fun z => aI z (3 : Int32).toNatClampNeg) (fm_A g26884 rR (by decide) rfl)).trans ((congrArg (fun z => aI z (3 : Int32).toNatClampNeg) (fm_A g26827 rR (by decide) rfl)).trans ((congrArg (fun z => aI z (3 : Int32).toNatClampNeg) (fm_A g26739 rR (by decide) rfl)).trans m26728))) _ _ _ hW hF (lv_sub hl [0, 1, 2, 3, 4, 5] rfl)
                  · refine lv_aload_n hx hb dX12_stepWeeks_75 rfl (lv_at hl 4 rfl) ?_
                    refine fg_RX12_8 E hW rh0 dX12_stepWeeks_76 (fun a26888 m26889 r26890 => ?_)
                    obtain rfl : pR = a26888 := (((fm_R g26884 rh0 rfl).trans m26872)).symm.trans m26889
                    refine lv_iload hx hb dX12_stepWeeks_79 (lv_at hl 0 rfl) ?_
                    refine lv_iconst (v := 2) hx hb dX12_stepWeeks_81 (by decide) ?_
                    refine q_iadd (Y := 2) hx hb dX12_stepWeeks_82 rfl rfl (by omega) (fun x26891 h26892 => ?_)
                    refine gl_822 E hW rR ⟨by omega, by omega⟩ dX12_stepWeeks_83 (fun y26893 m26894 b26895 => ?_)
                    refine lv_goto (tgt := 88) hx hb dX12_stepWeeks_84 (by decide) ?_
                    exact J26867 f26882 y26893 m26889 ((congrArg (fun z => aI z (3 : Int32).toNatClampNeg) (fm_A g26884 rR (by decide) rfl)).trans ((congrArg (fun z => aI z (3 : Int32).toNatClampNeg) (fm_A g26827 rR (by decide) rfl)).trans ((congrArg (fun z => aI z (3 : Int32).toNatClampNeg) (fm_A g26739 rR (by decide) rfl)).trans m26728))) _ _ _ hW hF (lv_sub hl [0, 1, 2, 3, 4, 5] rfl)
        have hk26897 : (0 : Int32).toInt = 0 := rfl
        exact L26732 13 f24077 0 y24081 m24084 m24087 (by decide) (by omega) _ _ _ hW hF (lv_sub hl [0, 1, 2, 3, 4] rfl)
  have hk26898 : (0 : Int32).toInt = 0 := rfl
  have hk26899 : (4 : Int32).toInt = 4 := rfl
  exact L24082 21 f0 0 4 mR (by decide) (by omega) _ _ _ hW hF (lv_sub hl [0, 1, 2, 3] rfl)
def ms_X12_force : List (Nat × Nat) := [(12, 0), (849, 0), (850, 0)]
def po_X12_force (kp : Nat → Nat) (L : List Nat) (f0 : Nat → va_E) (h0 : Nat) (u1 : Int32) (u2 : Int32) (u3 : Int32) : Option Value → (Nat → va_E) → Prop := fun v f => (∃ r : Int32, v = some (.int r) ∧ ((-1 : Int) ≤ r.toInt ∧ r.toInt ≤ 1)) ∧ FM kp L ms_X12_force f0 f
set_option maxHeartbeats 4000000 in
set_option maxRecDepth 100000 in
theorem c_X12_force (l : Launch) (G : va_G) (cI cJ cZ cD cR cT : ClassId) (kp : Nat → Nat) (L : List Nat) (f0 : Nat → va_E) (hTH : TH cI cJ cZ cD cR cT kp L f0) (sz : Nat) (h0 : Nat) (u1 : Int32) (u2 : Int32) (u3 : Int32) (rh0 : RK kp L h0 12) (hTX : TX (aI (f0 (oR (f0 h0) 2)))) : Met l yX12_force (Cond.code yX12_force cX12_force 4 (some .int) :: wTab) ({ frames := 4, cells := 0, slots := 0, locals := 105 }) (va_Pc [.ref h0, .int u1, .int u2, .int u3] (PreW G (tys6 cI cJ cZ cD cR cT) (va_pl L f0) sz)) (QT (po_X12_force kp L f0 h0 u1 u2 u3) G cI cJ cZ cD cR cT (va_A (va_pl L f0) sz) kp L) 0 0 (va_A (va_pl L f0) sz) := by
  refine metT (by decide) (Nat.le_of_ble_eq_true rfl) hTH ?_
  intro p e s m below meth c A ls E hW hl
  obtain ⟨hx, hb, -, hml, hown, hts, -, -, -⟩ := id E
  have hF : FM kp L ms_X12_force f0 f0 := FM.rf
  have hl : lv_has ls 4 [(0, .ref h0), (1, .int u1), (2, .int u2), (3, .int u3)] := hl
  obtain ⟨pR, mR⟩ : ∃ x : Nat, oR (f0 h0) 2 = x := ⟨_, rfl⟩
  have rR : RK kp L pR 822 := by rw [← mR]; exact th_ref hTH rh0 (by decide) (by decide) rfl
  rw [mR] at hTX
  refine lv_aload_n hx hb dX12_force_0 rfl (lv_at hl 0 rfl) ?_
  refine lv_iconst (v := 0) hx hb dX12_force_1 (by decide) ?_
  refine fp_RX12_82 E hW rh0 dX12_force_2 (fun f1 H locs e2 n3 g4 hW => ?_)
  have hF := FM.tr hF g4 rfl
  refine lv_iload_n hx hb dX12_force_5 rfl (lv_at hl 1 rfl) ?_
  refine q_i2l hx hb dX12_force_6 rfl (fun x5 h6 => ?_)
  have hb7 : -2147483648 ≤ x5.toInt ∧ x5.toInt ≤ 2147483647 := by have := i32_b u1; omega
  refine lv_lconst (v := 0) hx hb dX12_force_7 (by decide) ?_
  refine lv_aload_n hx hb dX12_force_8 rfl (lv_at hl 0 rfl) ?_
  refine fg_RX12_8 E hW rh0 dX12_force_9 (fun a8 m9 r10 => ?_)
  obtain rfl : pR = a8 := (((fm_R g4 rh0 rfl).trans mR)).symm.trans m9
  refine lv_iconst (v := 3) hx hb dX12_force_12 (by decide) ?_
  refine gl_822 E hW rR (by decide) dX12_force_13 (fun y11 m12 b13 => ?_)
  have b14 := rr_3 (show RowInv _ from b13) m12 (by decide)
  refine q_i2l hx hb dX12_force_14 rfl (fun x15 h16 => ?_)
  refine lv_lconst (v := 1) hx hb dX12_force_15 (by decide) ?_
  refine q_lsub (Y := 1) hx hb dX12_force_16 rfl rfl (by omega) (fun x17 h18 => ?_)
  refine t_callS (As := [.long x5, .long 0, .long x17]) (rest := []) E hW (c_X12_in l G cI cJ cZ cD cR cT kp L f1 hW.2.2.2 _ x5 0 x17) wk_X12_in tw_1554 rfl ⟨Nat.le_of_ble_eq_true rfl, Nat.le_of_ble_eq_true rfl⟩ ⟨rfl, rfl⟩ hl.1 rfl (Nat.le_of_ble_eq_true rfl) dX12_force_17 ⟨Nat.le_of_ble_eq_true rfl, Nat.le_of_ble_eq_true rfl⟩ (fun v19 f20 H locs q21 hW => ?_)
  obtain ⟨⟨x23, rfl, p24⟩, g22⟩ := q21
  have p24 : (x23.toInt = 1 ∧ 0 ≤ x5.toInt ∧ x5.toInt ≤ x17.toInt) ∨ (x23.toInt = 0 ∧ (x5.toInt < 0 ∨ x17.toInt < x5.toInt)) := p24
  have hF := FM.tr hF g22 rfl
  refine q_if_eq (tgt := 53) hx hb dX12_force_20 (by decide) rfl (fun c25 => ?_) (fun c25 => ?_)
  · have q26 : (x5.toInt < 0 ∨ x17.toInt < x5.toInt) := by omega
    clear p24
    refine lv_iconst (v := (-1)) hx hb dX12_force_53 (by decide) ?_
    exact e_I E hW rfl ⟨⟨_, rfl, (by have hk : ((-1) : Int32).toInt = -1 := rfl; first | decide | omega)⟩, hF⟩ dX12_force_54
  · have q27 : 0 ≤ x5.toInt ∧ x5.toInt ≤ x17.toInt := by omega
    clear p24
    refine lv_iload_n hx hb dX12_force_23 rfl (lv_at hl 2 rfl) ?_
    refine q_i2l hx hb dX12_force_24 rfl (fun x28 h29 => ?_)
    have hb30 : -2147483648 ≤ x28.toInt ∧ x28.toInt ≤ 2147483647 := by have := i32_b u2; omega
    refine lv_lconst (v := 0) hx hb dX12_force_25 (by decide) ?_
    refine lv_aload_n hx hb dX12_force_26 rfl (lv_at hl 0 rfl) ?_
    refine fg_RX12_8 E hW rh0 dX12_force_27 (fun a31 m32 r33 => ?_)
    obtain rfl : pR = a31 := (((fm_R g22 rh0 rfl).trans m9)).symm.trans m32
    refine lv_iload_n hx hb dX12_force_30 rfl (lv_at hl 1 rfl) ?_
    refine t_callS (As := [.int u1]) (rest := [.ref pR, .long 0, .long x28]) E hW (c_X12_textAt l G cI cJ cZ cD cR cT kp L f20 hW.2.2.2 _ u1 (by omega)) wk_X12_textAt tw_1655 rfl ⟨Nat.le_of_ble_eq_true rfl, Nat.le_of_ble_eq_true rfl⟩ ⟨rfl, rfl⟩ hl.1 rfl (Nat.le_of_ble_eq_true rfl) dX12_force_31 ⟨Nat.le_of_ble_eq_true rfl, Nat.le_of_ble_eq_true rfl⟩ (fun v34 f35 H locs q36 hW => ?_)
    obtain ⟨⟨x38, rfl, p39⟩, g37⟩ := q36
    have hF := FM.tr hF g37 rfl
    refine lv_iconst (v := 1) hx hb dX12_force_34 (by decide) ?_
    refine q_iadd (Y := 1) hx hb dX12_force_35 rfl rfl (by omega) (fun x40 h41 => ?_)
    refine gl_822 E hW rR ⟨by omega, by omega⟩ dX12_force_36 (fun y42 m43 b44 => ?_)
    have b45 := tx_n (t := u1) (by rw [fm_A hF rR (by decide) rfl]; exact hTX) (by omega) (by have z : aI (f35 pR) 3 = y11 := ((congrArg (fun z => aI z (3 : Int32).toNatClampNeg) (fm_A g37 rR (by decide) rfl)).trans ((congrArg (fun z => aI z (3 : Int32).toNatClampNeg) (fm_A g22 rR (by decide) rfl)).trans m12)); rw [z]; omega) m43 (by omega)
    refine q_i2l hx hb dX12_force_37 rfl (fun x46 h47 => ?_)
    refine lv_lconst (v := 1) hx hb dX12_force_38 (by decide) ?_
    refine q_lsub (Y := 1) hx hb dX12_force_39 rfl rfl (by omega) (fun x48 h49 => ?_)
    refine t_callS (As := [.long x28, .long 0, .long x48]) (rest := []) E hW (c_X12_in l G cI cJ cZ cD cR cT kp L f35 hW.2.2.2 _ x28 0 x48) wk_X12_in tw_1554 rfl ⟨Nat.le_of_ble_eq_true rfl, Nat.le_of_ble_eq_true rfl⟩ ⟨rfl, rfl⟩ hl.1 rfl (Nat.le_of_ble_eq_true rfl) dX12_force_40 ⟨Nat.le_of_ble_eq_true rfl, Nat.le_of_ble_eq_true rfl⟩ (fun v50 f51 H locs q52 hW => ?_)
    obtain ⟨⟨x54, rfl, p55⟩, g53⟩ := q52
    have p55 : (x54.toInt = 1 ∧ 0 ≤ x28.toInt ∧ x28.toInt ≤ x48.toInt) ∨ (x54.toInt = 0 ∧ (x28.toInt < 0 ∨ x48.toInt < x28.toInt)) := p55
    have hF := FM.tr hF g53 rfl
    refine q_if_eq (tgt := 53) hx hb dX12_force_43 (by decide) rfl (fun c56 => ?_) (fun c56 => ?_)
    · have q57 : (x28.toInt < 0 ∨ x48.toInt < x28.toInt) := by omega
      clear p55
      refine lv_iconst (v := (-1)) hx hb dX12_force_53 (by decide) ?_
      exact e_I E hW rfl ⟨⟨_, rfl, (by have hk : ((-1) : Int32).toInt = -1 := rfl; first | decide | omega)⟩, hF⟩ dX12_force_54
    · have q58 : 0 ≤ x28.toInt ∧ x28.toInt ≤ x48.toInt := by omega
      clear p55
      refine lv_iload_n hx hb dX12_force_46 rfl (lv_at hl 3 rfl) ?_
      refine t_callS (As := [.int u3]) (rest := []) E hW (c_X12_isWeek l G cI cJ cZ cD cR cT kp L f51 hW.2.2.2 _ u3) wk_X12_isWeek tw_1719 rfl ⟨Nat.le_of_ble_eq_true rfl, Nat.le_of_ble_eq_true rfl⟩ ⟨rfl, rfl⟩ hl.1 rfl (Nat.le_of_ble_eq_true rfl) dX12_force_47 ⟨Nat.le_of_ble_eq_true rfl, Nat.le_of_ble_eq_true rfl⟩ (fun v59 f60 H locs q61 hW => ?_)
      obtain ⟨⟨x63, rfl, p64⟩, g62⟩ := q61
      have hF := FM.tr hF g62 rfl
      refine q_if_ne (tgt := 55) hx hb dX12_force_50 (by decide) rfl (fun c65 => ?_) (fun c65 => ?_)
      · have q66 : 0 ≤ u3.toInt ∧ u3.toInt ≤ 399 := by omega
        clear p64
        refine lv_aload_n hx hb dX12_force_55 rfl (lv_at hl 0 rfl) ?_
        refine lv_iload_n hx hb dX12_force_56 rfl (lv_at hl 3 rfl) ?_
        refine t_callV (As := [.int u3]) (rest := []) E hW (c_X12_findForce l G cI cJ cZ cD cR cT kp L f60 hW.2.2.2 _ h0 u3 rh0 (by omega) (by rw [((fm_R g62 rh0 rfl).trans ((fm_R g53 rh0 rfl).trans ((fm_R g37 rh0 rfl).trans m32)))]; exact (by rw [fm_A hF rR (by decide) rfl]; exact hTX))) rh0 (by decide) rfl wk_X12_findForce tw_1651 rfl ⟨Nat.le_of_ble_eq_true rfl, Nat.le_of_ble_eq_true rfl⟩ ⟨rfl, rfl⟩ hl.1 rfl (Nat.le_of_ble_eq_true rfl) dX12_force_57 ⟨Nat.le_of_ble_eq_true rfl, Nat.le_of_ble_eq_true rfl⟩ (fun v67 f68 H locs q69 hW => ?_)
        obtain ⟨rfl, g70⟩ := q69
        have hF := FM.tr hF g70 rfl
        refine lv_aload_n hx hb dX12_force_60 rfl (lv_at hl 0 rfl) ?_
        refine lv_iload_n hx hb dX12_force_61 rfl (lv_at hl 1 rfl) ?_
        refine lv_iload_n hx hb dX12_force_62 rfl (lv_at hl 2 rfl) ?_
        refine t_callV (As := [.int u1, .int u2]) (rest := []) E hW (c_X12_isIn l G cI cJ cZ cD cR cT kp L f68 hW.2.2.2 _ h0 u1 u2 rh0 (by omega) (by omega)) rh0 (by decide) rfl wk_X12_isIn tw_1685 rfl ⟨Nat.le_of_ble_eq_true rfl, Nat.le_of_ble_eq_true rfl⟩ ⟨rfl, rfl⟩ hl.1 rfl (Nat.le_of_ble_eq_true rfl) dX12_force_63 ⟨Nat.le_of_ble_eq_true rfl, Nat.le_of_ble_eq_true rfl⟩ (fun v71 f72 H locs q73 hW => ?_)
        obtain ⟨⟨x75, rfl, p76⟩, g74⟩ := q73
        have hF := FM.tr hF g74 rfl
        have J79 : ∀ (y77 : Int32) (b78 : (0 : Int) ≤ y77.toInt ∧ y77.toInt ≤ 1) (H : Heap) (locs : List Loc) (ls : Array Slot), WS G cI cJ cZ cD cR cT A kp L f72 s H locs → FM kp L ms_X12_force f0 f72 → lv_has ls 4 [(0, .ref h0), (1, .int u1), (2, .int u2), (3, .int u3)] → W p l e ({ frames := 4, cells := 0, slots := 0, locals := 105 }) s m ([.ref h0, .int u1, .int u2, .int u3] : List Value).toArray below meth c H locs 0 0 (MQ below (QT (po_X12_force kp L f0 h0 u1 u2 u3) G cI cJ cZ cD cR cT A kp L) ([.ref h0, .int u1, .int u2, .int u3] : List Value).toArray s 0 0 A) (F0 m 74 ls [.int y77]) := by
          intro y77 b78 H locs ls hW hF hl
          clear b14 h16 h18 c25 c56 c65 p76
          exact e_I E hW rfl ⟨⟨_, rfl, (by first | omega | trivial)⟩, hF⟩ dX12_force_74
        refine q_if_eq (tgt := 73) hx hb dX12_force_66 (by decide) rfl (fun c80 => ?_) (fun c80 => ?_)
        · refine lv_iconst (v := 0) hx hb dX12_force_73 (by decide) ?_
          exact J79 0 (by decide) _ _ _ hW hF (lv_sub hl [0, 1, 2, 3] rfl)
        · refine lv_iconst (v := 1) hx hb dX12_force_69 (by decide) ?_
          refine lv_goto (tgt := 74) hx hb dX12_force_70 (by decide) ?_
          exact J79 1 (by decide) _ _ _ hW hF (lv_sub hl [0, 1, 2, 3] rfl)
      · have q81 : (u3.toInt < 0 ∨ 399 < u3.toInt) := by omega
        clear p64
        refine lv_iconst (v := (-1)) hx hb dX12_force_53 (by decide) ?_
        exact e_I E hW rfl ⟨⟨_, rfl, (by have hk : ((-1) : Int32).toInt = -1 := rfl; first | decide | omega)⟩, hF⟩ dX12_force_54
