theorem dX12_isIn_0 : decode cX12_isIn 0 = .ok (.aload_n 0, 1) := by decide +kernel
theorem dX12_isIn_1 : decode cX12_isIn 1 = .ok (.getfield 54, 3) := by decide +kernel
theorem dX12_isIn_4 : decode cX12_isIn 4 = .ok (.iload_n 1, 1) := by decide +kernel
theorem dX12_isIn_5 : decode cX12_isIn 5 = .ok (.baload, 1) := by decide +kernel
theorem dX12_isIn_6 : decode cX12_isIn 6 = .ok (.ifCond .eq 21, 3) := by decide +kernel
theorem dX12_isIn_28 : decode cX12_isIn 28 = .ok (.ireturn, 1) := by decide +kernel
theorem dX12_isIn_27 : decode cX12_isIn 27 = .ok (.iconst 0, 1) := by decide +kernel
theorem dX12_isIn_9 : decode cX12_isIn 9 = .ok (.aload_n 0, 1) := by decide +kernel
theorem dX12_isIn_10 : decode cX12_isIn 10 = .ok (.getfield 57, 3) := by decide +kernel
theorem dX12_isIn_13 : decode cX12_isIn 13 = .ok (.bipush 12, 2) := by decide +kernel
theorem dX12_isIn_15 : decode cX12_isIn 15 = .ok (.iload_n 1, 1) := by decide +kernel
theorem dX12_isIn_16 : decode cX12_isIn 16 = .ok (.imul, 1) := by decide +kernel
theorem dX12_isIn_17 : decode cX12_isIn 17 = .ok (.iload_n 2, 1) := by decide +kernel
theorem dX12_isIn_18 : decode cX12_isIn 18 = .ok (.iadd, 1) := by decide +kernel
theorem dX12_isIn_19 : decode cX12_isIn 19 = .ok (.baload, 1) := by decide +kernel
theorem dX12_isIn_20 : decode cX12_isIn 20 = .ok (.ifCond .ne 7, 3) := by decide +kernel
theorem dX12_isIn_23 : decode cX12_isIn 23 = .ok (.iconst 1, 1) := by decide +kernel
theorem dX12_isIn_24 : decode cX12_isIn 24 = .ok (.goto 4, 3) := by decide +kernel
theorem dX12_findForce_0 : decode cX12_findForce 0 = .ok (.iconst 0, 1) := by decide +kernel
theorem dX12_findForce_1 : decode cX12_findForce 1 = .ok (.istore_n 2, 1) := by decide +kernel
theorem dX12_findForce_2 : decode cX12_findForce 2 = .ok (.iload_n 2, 1) := by decide +kernel
theorem dX12_findForce_3 : decode cX12_findForce 3 = .ok (.sipush 240, 3) := by decide +kernel
theorem dX12_findForce_6 : decode cX12_findForce 6 = .ok (.if_icmp .ge 16, 3) := by decide +kernel
theorem dX12_findForce_22 : decode cX12_findForce 22 = .ok (.aload_n 0, 1) := by decide +kernel
theorem dX12_findForce_23 : decode cX12_findForce 23 = .ok (.getfield 8, 3) := by decide +kernel
theorem dX12_findForce_26 : decode cX12_findForce 26 = .ok (.iconst 3, 1) := by decide +kernel
theorem dX12_findForce_27 : decode cX12_findForce 27 = .ok (.iaload, 1) := by decide +kernel
theorem dX12_findForce_28 : decode cX12_findForce 28 = .ok (.iconst 1, 1) := by decide +kernel
theorem dX12_findForce_29 : decode cX12_findForce 29 = .ok (.isub, 1) := by decide +kernel
theorem dX12_findForce_30 : decode cX12_findForce 30 = .ok (.istore_n 2, 1) := by decide +kernel
theorem dX12_findForce_31 : decode cX12_findForce 31 = .ok (.iload_n 2, 1) := by decide +kernel
theorem dX12_findForce_32 : decode cX12_findForce 32 = .ok (.ifCond .lt 137, 3) := by decide +kernel
theorem dX12_findForce_169 : decode cX12_findForce 169 = .ok (.return_, 1) := by decide +kernel
theorem dX12_findForce_35 : decode cX12_findForce 35 = .ok (.aload_n 0, 1) := by decide +kernel
theorem dX12_findForce_36 : decode cX12_findForce 36 = .ok (.getfield 54, 3) := by decide +kernel
theorem dX12_findForce_39 : decode cX12_findForce 39 = .ok (.iload_n 2, 1) := by decide +kernel
theorem dX12_findForce_40 : decode cX12_findForce 40 = .ok (.aload_n 0, 1) := by decide +kernel
theorem dX12_findForce_41 : decode cX12_findForce 41 = .ok (.getfield 8, 3) := by decide +kernel
theorem dX12_findForce_44 : decode cX12_findForce 44 = .ok (.iload_n 2, 1) := by decide +kernel
theorem dX12_findForce_45 : decode cX12_findForce 45 = .ok (.invokestatic 382, 3) := by decide +kernel
theorem dX12_findForce_48 : decode cX12_findForce 48 = .ok (.iaload, 1) := by decide +kernel
theorem dX12_findForce_49 : decode cX12_findForce 49 = .ok (.iload_n 1, 1) := by decide +kernel
theorem dX12_findForce_50 : decode cX12_findForce 50 = .ok (.if_icmp .gt 7, 3) := by decide +kernel
theorem dX12_findForce_58 : decode cX12_findForce 58 = .ok (.bastore, 1) := by decide +kernel
theorem dX12_findForce_59 : decode cX12_findForce 59 = .ok (.iconst 0, 1) := by decide +kernel
theorem dX12_findForce_60 : decode cX12_findForce 60 = .ok (.istore_n 3, 1) := by decide +kernel
theorem dX12_findForce_61 : decode cX12_findForce 61 = .ok (.iload_n 3, 1) := by decide +kernel
theorem dX12_findForce_62 : decode cX12_findForce 62 = .ok (.aload_n 0, 1) := by decide +kernel
theorem dX12_findForce_63 : decode cX12_findForce 63 = .ok (.getfield 8, 3) := by decide +kernel
theorem dX12_findForce_66 : decode cX12_findForce 66 = .ok (.iload_n 2, 1) := by decide +kernel
theorem dX12_findForce_67 : decode cX12_findForce 67 = .ok (.invokestatic 382, 3) := by decide +kernel
theorem dX12_findForce_70 : decode cX12_findForce 70 = .ok (.iconst 1, 1) := by decide +kernel
theorem dX12_findForce_71 : decode cX12_findForce 71 = .ok (.iadd, 1) := by decide +kernel
theorem dX12_findForce_72 : decode cX12_findForce 72 = .ok (.iaload, 1) := by decide +kernel
theorem dX12_findForce_73 : decode cX12_findForce 73 = .ok (.if_icmp .ge 90, 3) := by decide +kernel
theorem dX12_findForce_163 : decode cX12_findForce 163 = .ok (.iinc 2 (-1), 3) := by decide +kernel
theorem dX12_findForce_166 : decode cX12_findForce 166 = .ok (.goto (-135), 3) := by decide +kernel
theorem dX12_findForce_76 : decode cX12_findForce 76 = .ok (.aload_n 0, 1) := by decide +kernel
theorem dX12_findForce_77 : decode cX12_findForce 77 = .ok (.getfield 54, 3) := by decide +kernel
theorem dX12_findForce_80 : decode cX12_findForce 80 = .ok (.iload_n 2, 1) := by decide +kernel
theorem dX12_findForce_81 : decode cX12_findForce 81 = .ok (.baload, 1) := by decide +kernel
theorem dX12_findForce_82 : decode cX12_findForce 82 = .ok (.ifCond .eq 81, 3) := by decide +kernel
theorem dX12_findForce_85 : decode cX12_findForce 85 = .ok (.iload_n 2, 1) := by decide +kernel
theorem dX12_findForce_86 : decode cX12_findForce 86 = .ok (.iload_n 3, 1) := by decide +kernel
theorem dX12_findForce_87 : decode cX12_findForce 87 = .ok (.invokestatic 388, 3) := by decide +kernel
theorem dX12_findForce_90 : decode cX12_findForce 90 = .ok (.istore 4, 2) := by decide +kernel
theorem dX12_findForce_92 : decode cX12_findForce 92 = .ok (.aload_n 0, 1) := by decide +kernel
theorem dX12_findForce_93 : decode cX12_findForce 93 = .ok (.getfield 8, 3) := by decide +kernel
theorem dX12_findForce_96 : decode cX12_findForce 96 = .ok (.iload 4, 2) := by decide +kernel
theorem dX12_findForce_98 : decode cX12_findForce 98 = .ok (.iaload, 1) := by decide +kernel
theorem dX12_findForce_99 : decode cX12_findForce 99 = .ok (.ifCond .ne 58, 3) := by decide +kernel
theorem dX12_findForce_157 : decode cX12_findForce 157 = .ok (.iinc 3 1, 3) := by decide +kernel
theorem dX12_findForce_160 : decode cX12_findForce 160 = .ok (.goto (-99), 3) := by decide +kernel
theorem dX12_findForce_102 : decode cX12_findForce 102 = .ok (.aload_n 0, 1) := by decide +kernel
theorem dX12_findForce_103 : decode cX12_findForce 103 = .ok (.getfield 57, 3) := by decide +kernel
theorem dX12_findForce_106 : decode cX12_findForce 106 = .ok (.bipush 12, 2) := by decide +kernel
theorem dX12_findForce_108 : decode cX12_findForce 108 = .ok (.iload_n 2, 1) := by decide +kernel
theorem dX12_findForce_109 : decode cX12_findForce 109 = .ok (.imul, 1) := by decide +kernel
theorem dX12_findForce_110 : decode cX12_findForce 110 = .ok (.iload_n 3, 1) := by decide +kernel
theorem dX12_findForce_111 : decode cX12_findForce 111 = .ok (.iadd, 1) := by decide +kernel
theorem dX12_findForce_112 : decode cX12_findForce 112 = .ok (.baload, 1) := by decide +kernel
theorem dX12_findForce_113 : decode cX12_findForce 113 = .ok (.ifCond .ne 44, 3) := by decide +kernel
theorem dX12_findForce_116 : decode cX12_findForce 116 = .ok (.aload_n 0, 1) := by decide +kernel
theorem dX12_findForce_117 : decode cX12_findForce 117 = .ok (.getfield 8, 3) := by decide +kernel
theorem dX12_findForce_120 : decode cX12_findForce 120 = .ok (.iload 4, 2) := by decide +kernel
theorem dX12_findForce_122 : decode cX12_findForce 122 = .ok (.iconst 1, 1) := by decide +kernel
theorem dX12_findForce_123 : decode cX12_findForce 123 = .ok (.iadd, 1) := by decide +kernel
theorem dX12_findForce_124 : decode cX12_findForce 124 = .ok (.iaload, 1) := by decide +kernel
theorem dX12_findForce_125 : decode cX12_findForce 125 = .ok (.iload_n 2, 1) := by decide +kernel
theorem dX12_findForce_126 : decode cX12_findForce 126 = .ok (.if_icmp .ge 31, 3) := by decide +kernel
theorem dX12_findForce_129 : decode cX12_findForce 129 = .ok (.aload_n 0, 1) := by decide +kernel
theorem dX12_findForce_130 : decode cX12_findForce 130 = .ok (.getfield 57, 3) := by decide +kernel
theorem dX12_findForce_133 : decode cX12_findForce 133 = .ok (.bipush 12, 2) := by decide +kernel
theorem dX12_findForce_135 : decode cX12_findForce 135 = .ok (.aload_n 0, 1) := by decide +kernel
theorem dX12_findForce_136 : decode cX12_findForce 136 = .ok (.getfield 8, 3) := by decide +kernel
theorem dX12_findForce_139 : decode cX12_findForce 139 = .ok (.iload 4, 2) := by decide +kernel
theorem dX12_findForce_141 : decode cX12_findForce 141 = .ok (.iconst 1, 1) := by decide +kernel
theorem dX12_findForce_142 : decode cX12_findForce 142 = .ok (.iadd, 1) := by decide +kernel
theorem dX12_findForce_143 : decode cX12_findForce 143 = .ok (.iaload, 1) := by decide +kernel
theorem dX12_findForce_144 : decode cX12_findForce 144 = .ok (.imul, 1) := by decide +kernel
theorem dX12_findForce_145 : decode cX12_findForce 145 = .ok (.aload_n 0, 1) := by decide +kernel
theorem dX12_findForce_146 : decode cX12_findForce 146 = .ok (.getfield 8, 3) := by decide +kernel
theorem dX12_findForce_149 : decode cX12_findForce 149 = .ok (.iload 4, 2) := by decide +kernel
theorem dX12_findForce_151 : decode cX12_findForce 151 = .ok (.iconst 2, 1) := by decide +kernel
theorem dX12_findForce_152 : decode cX12_findForce 152 = .ok (.iadd, 1) := by decide +kernel
theorem dX12_findForce_153 : decode cX12_findForce 153 = .ok (.iaload, 1) := by decide +kernel
theorem dX12_findForce_154 : decode cX12_findForce 154 = .ok (.iadd, 1) := by decide +kernel
theorem dX12_findForce_155 : decode cX12_findForce 155 = .ok (.iconst 1, 1) := by decide +kernel
theorem dX12_findForce_156 : decode cX12_findForce 156 = .ok (.bastore, 1) := by decide +kernel
theorem dX12_findForce_57 : decode cX12_findForce 57 = .ok (.iconst 0, 1) := by decide +kernel
theorem dX12_findForce_53 : decode cX12_findForce 53 = .ok (.iconst 1, 1) := by decide +kernel
theorem dX12_findForce_54 : decode cX12_findForce 54 = .ok (.goto 4, 3) := by decide +kernel
theorem dX12_findForce_9 : decode cX12_findForce 9 = .ok (.aload_n 0, 1) := by decide +kernel
theorem dX12_findForce_10 : decode cX12_findForce 10 = .ok (.getfield 57, 3) := by decide +kernel
theorem dX12_findForce_13 : decode cX12_findForce 13 = .ok (.iload_n 2, 1) := by decide +kernel
theorem dX12_findForce_14 : decode cX12_findForce 14 = .ok (.iconst 0, 1) := by decide +kernel
theorem dX12_findForce_15 : decode cX12_findForce 15 = .ok (.bastore, 1) := by decide +kernel
theorem dX12_findForce_16 : decode cX12_findForce 16 = .ok (.iinc 2 1, 3) := by decide +kernel
theorem dX12_findForce_19 : decode cX12_findForce 19 = .ok (.goto (-17), 3) := by decide +kernel
theorem dX12_forceNow_0 : decode cX12_forceNow 0 = .ok (.aload_n 0, 1) := by decide +kernel
theorem dX12_forceNow_1 : decode cX12_forceNow 1 = .ok (.aload_n 0, 1) := by decide +kernel
theorem dX12_forceNow_2 : decode cX12_forceNow 2 = .ok (.getfield 8, 3) := by decide +kernel
theorem dX12_forceNow_5 : decode cX12_forceNow 5 = .ok (.bipush 8, 2) := by decide +kernel
theorem dX12_forceNow_7 : decode cX12_forceNow 7 = .ok (.iaload, 1) := by decide +kernel
theorem dX12_forceNow_8 : decode cX12_forceNow 8 = .ok (.invokevirtual 392, 3) := by decide +kernel
theorem dX12_forceNow_11 : decode cX12_forceNow 11 = .ok (.return_, 1) := by decide +kernel
theorem dX12_stepWeeks_0 : decode cX12_stepWeeks 0 = .ok (.iconst 4, 1) := by decide +kernel
theorem dX12_stepWeeks_1 : decode cX12_stepWeeks 1 = .ok (.istore_n 2, 1) := by decide +kernel
theorem dX12_stepWeeks_2 : decode cX12_stepWeeks 2 = .ok (.iconst 0, 1) := by decide +kernel
theorem dX12_stepWeeks_3 : decode cX12_stepWeeks 3 = .ok (.istore_n 3, 1) := by decide +kernel
theorem dX12_stepWeeks_4 : decode cX12_stepWeeks 4 = .ok (.iload_n 3, 1) := by decide +kernel
theorem dX12_stepWeeks_5 : decode cX12_stepWeeks 5 = .ok (.aload_n 0, 1) := by decide +kernel
theorem dX12_stepWeeks_6 : decode cX12_stepWeeks 6 = .ok (.getfield 8, 3) := by decide +kernel
theorem dX12_stepWeeks_9 : decode cX12_stepWeeks 9 = .ok (.iconst 3, 1) := by decide +kernel
theorem dX12_stepWeeks_10 : decode cX12_stepWeeks 10 = .ok (.iaload, 1) := by decide +kernel
theorem dX12_stepWeeks_11 : decode cX12_stepWeeks 11 = .ok (.if_icmp .ge 90, 3) := by decide +kernel
theorem dX12_stepWeeks_101 : decode cX12_stepWeeks 101 = .ok (.iload_n 2, 1) := by decide +kernel
theorem dX12_stepWeeks_102 : decode cX12_stepWeeks 102 = .ok (.ireturn, 1) := by decide +kernel
theorem dX12_stepWeeks_14 : decode cX12_stepWeeks 14 = .ok (.iconst 0, 1) := by decide +kernel
theorem dX12_stepWeeks_15 : decode cX12_stepWeeks 15 = .ok (.istore 4, 2) := by decide +kernel
theorem dX12_stepWeeks_17 : decode cX12_stepWeeks 17 = .ok (.iload 4, 2) := by decide +kernel
theorem dX12_stepWeeks_19 : decode cX12_stepWeeks 19 = .ok (.aload_n 0, 1) := by decide +kernel
theorem dX12_stepWeeks_20 : decode cX12_stepWeeks 20 = .ok (.getfield 8, 3) := by decide +kernel
theorem dX12_stepWeeks_23 : decode cX12_stepWeeks 23 = .ok (.iload_n 3, 1) := by decide +kernel
theorem dX12_stepWeeks_24 : decode cX12_stepWeeks 24 = .ok (.invokestatic 382, 3) := by decide +kernel
theorem dX12_stepWeeks_27 : decode cX12_stepWeeks 27 = .ok (.iconst 1, 1) := by decide +kernel
theorem dX12_stepWeeks_28 : decode cX12_stepWeeks 28 = .ok (.iadd, 1) := by decide +kernel
theorem dX12_stepWeeks_29 : decode cX12_stepWeeks 29 = .ok (.iaload, 1) := by decide +kernel
theorem dX12_stepWeeks_30 : decode cX12_stepWeeks 30 = .ok (.if_icmp .ge 65, 3) := by decide +kernel
theorem dX12_stepWeeks_95 : decode cX12_stepWeeks 95 = .ok (.iinc 3 1, 3) := by decide +kernel
theorem dX12_stepWeeks_98 : decode cX12_stepWeeks 98 = .ok (.goto (-94), 3) := by decide +kernel
theorem dX12_stepWeeks_33 : decode cX12_stepWeeks 33 = .ok (.iload_n 3, 1) := by decide +kernel
theorem dX12_stepWeeks_34 : decode cX12_stepWeeks 34 = .ok (.iload 4, 2) := by decide +kernel
theorem dX12_stepWeeks_36 : decode cX12_stepWeeks 36 = .ok (.invokestatic 388, 3) := by decide +kernel
theorem dX12_stepWeeks_39 : decode cX12_stepWeeks 39 = .ok (.istore 5, 2) := by decide +kernel
theorem dX12_stepWeeks_41 : decode cX12_stepWeeks 41 = .ok (.aload_n 0, 1) := by decide +kernel
theorem dX12_stepWeeks_42 : decode cX12_stepWeeks 42 = .ok (.getfield 8, 3) := by decide +kernel
theorem dX12_stepWeeks_45 : decode cX12_stepWeeks 45 = .ok (.iload 5, 2) := by decide +kernel
theorem dX12_stepWeeks_47 : decode cX12_stepWeeks 47 = .ok (.iaload, 1) := by decide +kernel
theorem dX12_stepWeeks_48 : decode cX12_stepWeeks 48 = .ok (.iconst 1, 1) := by decide +kernel
theorem dX12_stepWeeks_49 : decode cX12_stepWeeks 49 = .ok (.if_icmp .ne 38, 3) := by decide +kernel
theorem dX12_stepWeeks_88 : decode cX12_stepWeeks 88 = .ok (.istore_n 2, 1) := by decide +kernel
theorem dX12_stepWeeks_89 : decode cX12_stepWeeks 89 = .ok (.iinc 4 1, 3) := by decide +kernel
theorem dX12_stepWeeks_92 : decode cX12_stepWeeks 92 = .ok (.goto (-75), 3) := by decide +kernel
theorem dX12_stepWeeks_87 : decode cX12_stepWeeks 87 = .ok (.iload_n 2, 1) := by decide +kernel
theorem dX12_stepWeeks_52 : decode cX12_stepWeeks 52 = .ok (.aload_n 0, 1) := by decide +kernel
theorem dX12_stepWeeks_53 : decode cX12_stepWeeks 53 = .ok (.getfield 8, 3) := by decide +kernel
theorem dX12_stepWeeks_56 : decode cX12_stepWeeks 56 = .ok (.iload 5, 2) := by decide +kernel
theorem dX12_stepWeeks_58 : decode cX12_stepWeeks 58 = .ok (.iconst 1, 1) := by decide +kernel
theorem dX12_stepWeeks_59 : decode cX12_stepWeeks 59 = .ok (.iadd, 1) := by decide +kernel
theorem dX12_stepWeeks_60 : decode cX12_stepWeeks 60 = .ok (.iaload, 1) := by decide +kernel
theorem dX12_stepWeeks_61 : decode cX12_stepWeeks 61 = .ok (.iload_n 1, 1) := by decide +kernel
theorem dX12_stepWeeks_62 : decode cX12_stepWeeks 62 = .ok (.if_icmp .ne 25, 3) := by decide +kernel
theorem dX12_stepWeeks_65 : decode cX12_stepWeeks 65 = .ok (.aload_n 0, 1) := by decide +kernel
theorem dX12_stepWeeks_66 : decode cX12_stepWeeks 66 = .ok (.iload_n 3, 1) := by decide +kernel
theorem dX12_stepWeeks_67 : decode cX12_stepWeeks 67 = .ok (.iload 4, 2) := by decide +kernel
theorem dX12_stepWeeks_69 : decode cX12_stepWeeks 69 = .ok (.invokevirtual 395, 3) := by decide +kernel
theorem dX12_stepWeeks_72 : decode cX12_stepWeeks 72 = .ok (.ifCond .eq 15, 3) := by decide +kernel
theorem dX12_stepWeeks_75 : decode cX12_stepWeeks 75 = .ok (.aload_n 0, 1) := by decide +kernel
theorem dX12_stepWeeks_76 : decode cX12_stepWeeks 76 = .ok (.getfield 8, 3) := by decide +kernel
theorem dX12_stepWeeks_79 : decode cX12_stepWeeks 79 = .ok (.iload 5, 2) := by decide +kernel
theorem dX12_stepWeeks_81 : decode cX12_stepWeeks 81 = .ok (.iconst 2, 1) := by decide +kernel
theorem dX12_stepWeeks_82 : decode cX12_stepWeeks 82 = .ok (.iadd, 1) := by decide +kernel
theorem dX12_stepWeeks_83 : decode cX12_stepWeeks 83 = .ok (.iaload, 1) := by decide +kernel
theorem dX12_stepWeeks_84 : decode cX12_stepWeeks 84 = .ok (.goto 4, 3) := by decide +kernel
theorem dX12_force_0 : decode cX12_force 0 = .ok (.aload_n 0, 1) := by decide +kernel
theorem dX12_force_1 : decode cX12_force 1 = .ok (.iconst 0, 1) := by decide +kernel
theorem dX12_force_2 : decode cX12_force 2 = .ok (.putfield 82, 3) := by decide +kernel
theorem dX12_force_5 : decode cX12_force 5 = .ok (.iload_n 1, 1) := by decide +kernel
theorem dX12_force_6 : decode cX12_force 6 = .ok (.i2l, 1) := by decide +kernel
theorem dX12_force_7 : decode cX12_force 7 = .ok (.lconst 0, 1) := by decide +kernel
theorem dX12_force_8 : decode cX12_force 8 = .ok (.aload_n 0, 1) := by decide +kernel
theorem dX12_force_9 : decode cX12_force 9 = .ok (.getfield 8, 3) := by decide +kernel
theorem dX12_force_12 : decode cX12_force 12 = .ok (.iconst 3, 1) := by decide +kernel
theorem dX12_force_13 : decode cX12_force 13 = .ok (.iaload, 1) := by decide +kernel
theorem dX12_force_14 : decode cX12_force 14 = .ok (.i2l, 1) := by decide +kernel
theorem dX12_force_15 : decode cX12_force 15 = .ok (.lconst 1, 1) := by decide +kernel
theorem dX12_force_16 : decode cX12_force 16 = .ok (.lsub, 1) := by decide +kernel
theorem dX12_force_17 : decode cX12_force 17 = .ok (.invokestatic 90, 3) := by decide +kernel
theorem dX12_force_20 : decode cX12_force 20 = .ok (.ifCond .eq 33, 3) := by decide +kernel
theorem dX12_force_53 : decode cX12_force 53 = .ok (.iconst (-1), 1) := by decide +kernel
theorem dX12_force_54 : decode cX12_force 54 = .ok (.ireturn, 1) := by decide +kernel
theorem dX12_force_23 : decode cX12_force 23 = .ok (.iload_n 2, 1) := by decide +kernel
theorem dX12_force_24 : decode cX12_force 24 = .ok (.i2l, 1) := by decide +kernel
theorem dX12_force_25 : decode cX12_force 25 = .ok (.lconst 0, 1) := by decide +kernel
theorem dX12_force_26 : decode cX12_force 26 = .ok (.aload_n 0, 1) := by decide +kernel
theorem dX12_force_27 : decode cX12_force 27 = .ok (.getfield 8, 3) := by decide +kernel
theorem dX12_force_30 : decode cX12_force 30 = .ok (.iload_n 1, 1) := by decide +kernel
theorem dX12_force_31 : decode cX12_force 31 = .ok (.invokestatic 382, 3) := by decide +kernel
theorem dX12_force_34 : decode cX12_force 34 = .ok (.iconst 1, 1) := by decide +kernel
theorem dX12_force_35 : decode cX12_force 35 = .ok (.iadd, 1) := by decide +kernel
theorem dX12_force_36 : decode cX12_force 36 = .ok (.iaload, 1) := by decide +kernel
theorem dX12_force_37 : decode cX12_force 37 = .ok (.i2l, 1) := by decide +kernel
theorem dX12_force_38 : decode cX12_force 38 = .ok (.lconst 1, 1) := by decide +kernel
theorem dX12_force_39 : decode cX12_force 39 = .ok (.lsub, 1) := by decide +kernel
theorem dX12_force_40 : decode cX12_force 40 = .ok (.invokestatic 90, 3) := by decide +kernel
theorem dX12_force_43 : decode cX12_force 43 = .ok (.ifCond .eq 10, 3) := by decide +kernel
theorem dX12_force_46 : decode cX12_force 46 = .ok (.iload_n 3, 1) := by decide +kernel
theorem dX12_force_47 : decode cX12_force 47 = .ok (.invokestatic 156, 3) := by decide +kernel
theorem dX12_force_50 : decode cX12_force 50 = .ok (.ifCond .ne 5, 3) := by decide +kernel
theorem dX12_force_55 : decode cX12_force 55 = .ok (.aload_n 0, 1) := by decide +kernel
theorem dX12_force_56 : decode cX12_force 56 = .ok (.iload_n 3, 1) := by decide +kernel
theorem dX12_force_57 : decode cX12_force 57 = .ok (.invokevirtual 392, 3) := by decide +kernel
theorem dX12_force_60 : decode cX12_force 60 = .ok (.aload_n 0, 1) := by decide +kernel
theorem dX12_force_61 : decode cX12_force 61 = .ok (.iload_n 1, 1) := by decide +kernel
theorem dX12_force_62 : decode cX12_force 62 = .ok (.iload_n 2, 1) := by decide +kernel
theorem dX12_force_63 : decode cX12_force 63 = .ok (.invokevirtual 395, 3) := by decide +kernel
theorem dX12_force_66 : decode cX12_force 66 = .ok (.ifCond .eq 7, 3) := by decide +kernel
theorem dX12_force_74 : decode cX12_force 74 = .ok (.ireturn, 1) := by decide +kernel
theorem dX12_force_73 : decode cX12_force 73 = .ok (.iconst 0, 1) := by decide +kernel
theorem dX12_force_69 : decode cX12_force 69 = .ok (.iconst 1, 1) := by decide +kernel
theorem dX12_force_70 : decode cX12_force 70 = .ok (.goto 4, 3) := by decide +kernel
theorem dX12_run_0 : decode cX12_run 0 = .ok (.aload_n 0, 1) := by decide +kernel
theorem dX12_run_1 : decode cX12_run 1 = .ok (.iconst 0, 1) := by decide +kernel
theorem dX12_run_2 : decode cX12_run 2 = .ok (.putfield 406, 3) := by decide +kernel
theorem dX12_run_5 : decode cX12_run 5 = .ok (.iconst 0, 1) := by decide +kernel
theorem dX12_run_6 : decode cX12_run 6 = .ok (.istore 4, 2) := by decide +kernel
theorem dX12_run_8 : decode cX12_run 8 = .ok (.iload_n 2, 1) := by decide +kernel
theorem dX12_run_9 : decode cX12_run 9 = .ok (.istore 5, 2) := by decide +kernel
theorem dX12_run_11 : decode cX12_run 11 = .ok (.iload 5, 2) := by decide +kernel
theorem dX12_run_13 : decode cX12_run 13 = .ok (.iload_n 3, 1) := by decide +kernel
theorem dX12_run_14 : decode cX12_run 14 = .ok (.if_icmp .ge 268, 3) := by decide +kernel
theorem dX12_run_282 : decode cX12_run 282 = .ok (.aload_n 0, 1) := by decide +kernel
theorem dX12_run_283 : decode cX12_run 283 = .ok (.iload 4, 2) := by decide +kernel
theorem dX12_run_285 : decode cX12_run 285 = .ok (.ifCond .le 12, 3) := by decide +kernel
theorem dX12_run_297 : decode cX12_run 297 = .ok (.lconst 0, 1) := by decide +kernel
theorem dX12_run_298 : decode cX12_run 298 = .ok (.putfield 417, 3) := by decide +kernel
theorem dX12_run_301 : decode cX12_run 301 = .ok (.return_, 1) := by decide +kernel
theorem dX12_run_288 : decode cX12_run 288 = .ok (.aload_n 0, 1) := by decide +kernel
theorem dX12_run_289 : decode cX12_run 289 = .ok (.getfield 64, 3) := by decide +kernel
theorem dX12_run_292 : decode cX12_run 292 = .ok (.iconst 0, 1) := by decide +kernel
theorem dX12_run_293 : decode cX12_run 293 = .ok (.laload, 1) := by decide +kernel
theorem dX12_run_294 : decode cX12_run 294 = .ok (.goto 4, 3) := by decide +kernel
theorem dX12_run_17 : decode cX12_run 17 = .ok (.aload_n 0, 1) := by decide +kernel
theorem dX12_run_18 : decode cX12_run 18 = .ok (.getfield 406, 3) := by decide +kernel
theorem dX12_run_21 : decode cX12_run 21 = .ok (.ifCond .ne 261, 3) := by decide +kernel
theorem dX12_run_24 : decode cX12_run 24 = .ok (.aload_n 0, 1) := by decide +kernel
theorem dX12_run_25 : decode cX12_run 25 = .ok (.getfield 8, 3) := by decide +kernel
theorem dX12_run_28 : decode cX12_run 28 = .ok (.iload_n 1, 1) := by decide +kernel
theorem dX12_run_29 : decode cX12_run 29 = .ok (.invokestatic 382, 3) := by decide +kernel
theorem dX12_run_32 : decode cX12_run 32 = .ok (.bipush 98, 2) := by decide +kernel
theorem dX12_run_34 : decode cX12_run 34 = .ok (.iadd, 1) := by decide +kernel
theorem dX12_run_35 : decode cX12_run 35 = .ok (.iconst 2, 1) := by decide +kernel
theorem dX12_run_36 : decode cX12_run 36 = .ok (.iload 5, 2) := by decide +kernel
theorem dX12_run_38 : decode cX12_run 38 = .ok (.imul, 1) := by decide +kernel
theorem dX12_run_39 : decode cX12_run 39 = .ok (.iadd, 1) := by decide +kernel
theorem dX12_run_40 : decode cX12_run 40 = .ok (.iaload, 1) := by decide +kernel
theorem dX12_run_41 : decode cX12_run 41 = .ok (.istore 6, 2) := by decide +kernel
theorem dX12_run_43 : decode cX12_run 43 = .ok (.aload_n 0, 1) := by decide +kernel
theorem dX12_run_44 : decode cX12_run 44 = .ok (.getfield 8, 3) := by decide +kernel
theorem dX12_run_47 : decode cX12_run 47 = .ok (.iload_n 1, 1) := by decide +kernel
theorem dX12_run_48 : decode cX12_run 48 = .ok (.invokestatic 382, 3) := by decide +kernel
theorem dX12_run_51 : decode cX12_run 51 = .ok (.bipush 98, 2) := by decide +kernel
theorem dX12_run_53 : decode cX12_run 53 = .ok (.iadd, 1) := by decide +kernel
theorem dX12_run_54 : decode cX12_run 54 = .ok (.iconst 2, 1) := by decide +kernel
theorem dX12_run_55 : decode cX12_run 55 = .ok (.iload 5, 2) := by decide +kernel
theorem dX12_run_57 : decode cX12_run 57 = .ok (.imul, 1) := by decide +kernel
theorem dX12_run_58 : decode cX12_run 58 = .ok (.iadd, 1) := by decide +kernel
theorem dX12_run_59 : decode cX12_run 59 = .ok (.iconst 1, 1) := by decide +kernel
theorem dX12_run_60 : decode cX12_run 60 = .ok (.iadd, 1) := by decide +kernel
theorem dX12_run_61 : decode cX12_run 61 = .ok (.iaload, 1) := by decide +kernel
theorem dX12_run_62 : decode cX12_run 62 = .ok (.istore 7, 2) := by decide +kernel
theorem dX12_run_64 : decode cX12_run 64 = .ok (.iinc 5 1, 3) := by decide +kernel
theorem dX12_run_67 : decode cX12_run 67 = .ok (.iload 6, 2) := by decide +kernel
theorem dX12_run_69 : decode cX12_run 69 = .ok (.bipush 20, 2) := by decide +kernel
theorem dX12_run_71 : decode cX12_run 71 = .ok (.if_icmp .ge 62, 3) := by decide +kernel
theorem dX12_run_133 : decode cX12_run 133 = .ok (.iload 6, 2) := by decide +kernel
theorem dX12_run_135 : decode cX12_run 135 = .ok (.bipush 27, 2) := by decide +kernel
theorem dX12_run_137 : decode cX12_run 137 = .ok (.if_icmp .ge 77, 3) := by decide +kernel
theorem dX12_run_214 : decode cX12_run 214 = .ok (.iload 6, 2) := by decide +kernel
theorem dX12_run_216 : decode cX12_run 216 = .ok (.bipush 27, 2) := by decide +kernel
theorem dX12_run_218 : decode cX12_run 218 = .ok (.if_icmp .ne 26, 3) := by decide +kernel
theorem dX12_run_244 : decode cX12_run 244 = .ok (.aload_n 0, 1) := by decide +kernel
theorem dX12_run_245 : decode cX12_run 245 = .ok (.getfield 64, 3) := by decide +kernel
theorem dX12_run_248 : decode cX12_run 248 = .ok (.iload 4, 2) := by decide +kernel
theorem dX12_run_250 : decode cX12_run 250 = .ok (.iconst 1, 1) := by decide +kernel
theorem dX12_run_251 : decode cX12_run 251 = .ok (.isub, 1) := by decide +kernel
theorem dX12_run_252 : decode cX12_run 252 = .ok (.laload, 1) := by decide +kernel
theorem dX12_run_253 : decode cX12_run 253 = .ok (.iload 6, 2) := by decide +kernel
theorem dX12_run_255 : decode cX12_run 255 = .ok (.bipush 28, 2) := by decide +kernel
theorem dX12_run_257 : decode cX12_run 257 = .ok (.if_icmp .ne 7, 3) := by decide +kernel
theorem dX12_run_264 : decode cX12_run 264 = .ok (.lconst 1, 1) := by decide +kernel
theorem dX12_run_265 : decode cX12_run 265 = .ok (.lcmp, 1) := by decide +kernel
theorem dX12_run_266 : decode cX12_run 266 = .ok (.ifCond .ne 10, 3) := by decide +kernel
theorem dX12_run_276 : decode cX12_run 276 = .ok (.iinc 4 (-1), 3) := by decide +kernel
theorem dX12_run_279 : decode cX12_run 279 = .ok (.goto (-268), 3) := by decide +kernel
theorem dX12_run_269 : decode cX12_run 269 = .ok (.iload 7, 2) := by decide +kernel
theorem dX12_run_271 : decode cX12_run 271 = .ok (.istore 5, 2) := by decide +kernel
theorem dX12_run_273 : decode cX12_run 273 = .ok (.goto 6, 3) := by decide +kernel
theorem dX12_run_260 : decode cX12_run 260 = .ok (.lconst 0, 1) := by decide +kernel
theorem dX12_run_261 : decode cX12_run 261 = .ok (.goto 4, 3) := by decide +kernel
theorem dX12_run_221 : decode cX12_run 221 = .ok (.aload_n 0, 1) := by decide +kernel
theorem dX12_run_222 : decode cX12_run 222 = .ok (.getfield 64, 3) := by decide +kernel
theorem dX12_run_225 : decode cX12_run 225 = .ok (.iload 4, 2) := by decide +kernel
theorem dX12_run_227 : decode cX12_run 227 = .ok (.iconst 1, 1) := by decide +kernel
theorem dX12_run_228 : decode cX12_run 228 = .ok (.isub, 1) := by decide +kernel
theorem dX12_run_229 : decode cX12_run 229 = .ok (.lconst 1, 1) := by decide +kernel
theorem dX12_run_230 : decode cX12_run 230 = .ok (.aload_n 0, 1) := by decide +kernel
theorem dX12_run_231 : decode cX12_run 231 = .ok (.getfield 64, 3) := by decide +kernel
theorem dX12_run_234 : decode cX12_run 234 = .ok (.iload 4, 2) := by decide +kernel
theorem dX12_run_236 : decode cX12_run 236 = .ok (.iconst 1, 1) := by decide +kernel
theorem dX12_run_237 : decode cX12_run 237 = .ok (.isub, 1) := by decide +kernel
theorem dX12_run_238 : decode cX12_run 238 = .ok (.laload, 1) := by decide +kernel
theorem dX12_run_239 : decode cX12_run 239 = .ok (.lsub, 1) := by decide +kernel
theorem dX12_run_240 : decode cX12_run 240 = .ok (.lastore, 1) := by decide +kernel
theorem dX12_run_241 : decode cX12_run 241 = .ok (.goto 38, 3) := by decide +kernel
theorem dX12_run_140 : decode cX12_run 140 = .ok (.iinc 4 (-1), 3) := by decide +kernel
theorem dX12_run_143 : decode cX12_run 143 = .ok (.aload_n 0, 1) := by decide +kernel
theorem dX12_run_144 : decode cX12_run 144 = .ok (.getfield 64, 3) := by decide +kernel
theorem dX12_run_147 : decode cX12_run 147 = .ok (.iload 4, 2) := by decide +kernel
theorem dX12_run_149 : decode cX12_run 149 = .ok (.iconst 1, 1) := by decide +kernel
theorem dX12_run_150 : decode cX12_run 150 = .ok (.isub, 1) := by decide +kernel
theorem dX12_run_151 : decode cX12_run 151 = .ok (.aload_n 0, 1) := by decide +kernel
theorem dX12_run_152 : decode cX12_run 152 = .ok (.iload 6, 2) := by decide +kernel
theorem dX12_run_154 : decode cX12_run 154 = .ok (.aload_n 0, 1) := by decide +kernel
theorem dX12_run_155 : decode cX12_run 155 = .ok (.getfield 64, 3) := by decide +kernel
theorem dX12_run_158 : decode cX12_run 158 = .ok (.iload 4, 2) := by decide +kernel
theorem dX12_run_160 : decode cX12_run 160 = .ok (.iconst 1, 1) := by decide +kernel
theorem dX12_run_161 : decode cX12_run 161 = .ok (.isub, 1) := by decide +kernel
theorem dX12_run_162 : decode cX12_run 162 = .ok (.laload, 1) := by decide +kernel
theorem dX12_run_163 : decode cX12_run 163 = .ok (.aload_n 0, 1) := by decide +kernel
theorem dX12_run_164 : decode cX12_run 164 = .ok (.getfield 64, 3) := by decide +kernel
theorem dX12_run_167 : decode cX12_run 167 = .ok (.iload 4, 2) := by decide +kernel
theorem dX12_run_169 : decode cX12_run 169 = .ok (.laload, 1) := by decide +kernel
theorem dX12_run_170 : decode cX12_run 170 = .ok (.invokevirtual 413, 3) := by decide +kernel
theorem dX12_run_173 : decode cX12_run 173 = .ok (.lastore, 1) := by decide +kernel
theorem dX12_run_174 : decode cX12_run 174 = .ok (.aload_n 0, 1) := by decide +kernel
theorem dX12_run_175 : decode cX12_run 175 = .ok (.aload_n 0, 1) := by decide +kernel
theorem dX12_run_176 : decode cX12_run 176 = .ok (.getfield 406, 3) := by decide +kernel
theorem dX12_run_179 : decode cX12_run 179 = .ok (.ifCond .ne 24, 3) := by decide +kernel
theorem dX12_run_203 : decode cX12_run 203 = .ok (.iconst 1, 1) := by decide +kernel
theorem dX12_run_204 : decode cX12_run 204 = .ok (.goto 4, 3) := by decide +kernel
theorem dX12_run_208 : decode cX12_run 208 = .ok (.putfield 406, 3) := by decide +kernel
theorem dX12_run_211 : decode cX12_run 211 = .ok (.goto 68, 3) := by decide +kernel
theorem dX12_run_182 : decode cX12_run 182 = .ok (.aload_n 0, 1) := by decide +kernel
theorem dX12_run_183 : decode cX12_run 183 = .ok (.getfield 64, 3) := by decide +kernel
theorem dX12_run_186 : decode cX12_run 186 = .ok (.iload 4, 2) := by decide +kernel
theorem dX12_run_188 : decode cX12_run 188 = .ok (.iconst 1, 1) := by decide +kernel
theorem dX12_run_189 : decode cX12_run 189 = .ok (.isub, 1) := by decide +kernel
theorem dX12_run_190 : decode cX12_run 190 = .ok (.laload, 1) := by decide +kernel
theorem dX12_run_191 : decode cX12_run 191 = .ok (.ldc2_w 409, 3) := by decide +kernel
theorem dX12_run_194 : decode cX12_run 194 = .ok (.ldc2_w 411, 3) := by decide +kernel
theorem dX12_run_197 : decode cX12_run 197 = .ok (.invokestatic 90, 3) := by decide +kernel
theorem dX12_run_200 : decode cX12_run 200 = .ok (.ifCond .ne 7, 3) := by decide +kernel
theorem dX12_run_207 : decode cX12_run 207 = .ok (.iconst 0, 1) := by decide +kernel
theorem dX12_run_74 : decode cX12_run 74 = .ok (.aload_n 0, 1) := by decide +kernel
theorem dX12_run_75 : decode cX12_run 75 = .ok (.getfield 64, 3) := by decide +kernel
theorem dX12_run_78 : decode cX12_run 78 = .ok (.iload 4, 2) := by decide +kernel
theorem dX12_run_80 : decode cX12_run 80 = .ok (.iload 6, 2) := by decide +kernel
theorem dX12_run_82 : decode cX12_run 82 = .ok (.ifCond .ne 9, 3) := by decide +kernel
theorem dX12_run_91 : decode cX12_run 91 = .ok (.aload_n 0, 1) := by decide +kernel
theorem dX12_run_92 : decode cX12_run 92 = .ok (.getfield 60, 3) := by decide +kernel
theorem dX12_run_95 : decode cX12_run 95 = .ok (.iload 6, 2) := by decide +kernel
theorem dX12_run_97 : decode cX12_run 97 = .ok (.laload, 1) := by decide +kernel
theorem dX12_run_98 : decode cX12_run 98 = .ok (.lastore, 1) := by decide +kernel
theorem dX12_run_99 : decode cX12_run 99 = .ok (.aload_n 0, 1) := by decide +kernel
theorem dX12_run_100 : decode cX12_run 100 = .ok (.aload_n 0, 1) := by decide +kernel
theorem dX12_run_101 : decode cX12_run 101 = .ok (.getfield 64, 3) := by decide +kernel
theorem dX12_run_104 : decode cX12_run 104 = .ok (.iload 4, 2) := by decide +kernel
theorem dX12_run_106 : decode cX12_run 106 = .ok (.laload, 1) := by decide +kernel
theorem dX12_run_107 : decode cX12_run 107 = .ok (.ldc2_w 409, 3) := by decide +kernel
theorem dX12_run_110 : decode cX12_run 110 = .ok (.ldc2_w 411, 3) := by decide +kernel
theorem dX12_run_113 : decode cX12_run 113 = .ok (.invokestatic 90, 3) := by decide +kernel
theorem dX12_run_116 : decode cX12_run 116 = .ok (.ifCond .ne 7, 3) := by decide +kernel
theorem dX12_run_123 : decode cX12_run 123 = .ok (.iconst 0, 1) := by decide +kernel
theorem dX12_run_124 : decode cX12_run 124 = .ok (.putfield 406, 3) := by decide +kernel
theorem dX12_run_127 : decode cX12_run 127 = .ok (.iinc 4 1, 3) := by decide +kernel
theorem dX12_run_130 : decode cX12_run 130 = .ok (.goto 149, 3) := by decide +kernel
theorem dX12_run_119 : decode cX12_run 119 = .ok (.iconst 1, 1) := by decide +kernel
theorem dX12_run_120 : decode cX12_run 120 = .ok (.goto 4, 3) := by decide +kernel
theorem dX12_run_85 : decode cX12_run 85 = .ok (.iload 7, 2) := by decide +kernel
theorem dX12_run_87 : decode cX12_run 87 = .ok (.i2l, 1) := by decide +kernel
theorem dX12_run_88 : decode cX12_run 88 = .ok (.goto 10, 3) := by decide +kernel
theorem dX12_isSo_0 : decode cX12_isSo 0 = .ok (.iload_n 1, 1) := by decide +kernel
theorem dX12_isSo_1 : decode cX12_isSo 1 = .ok (.iload_n 2, 1) := by decide +kernel
theorem dX12_isSo_2 : decode cX12_isSo 2 = .ok (.invokestatic 388, 3) := by decide +kernel
theorem dX12_isSo_5 : decode cX12_isSo 5 = .ok (.istore_n 3, 1) := by decide +kernel
theorem dX12_isSo_6 : decode cX12_isSo 6 = .ok (.aload_n 0, 1) := by decide +kernel
theorem dX12_isSo_7 : decode cX12_isSo 7 = .ok (.getfield 8, 3) := by decide +kernel
theorem dX12_isSo_10 : decode cX12_isSo 10 = .ok (.iload_n 3, 1) := by decide +kernel
theorem dX12_isSo_11 : decode cX12_isSo 11 = .ok (.iconst 5, 1) := by decide +kernel
theorem dX12_isSo_12 : decode cX12_isSo 12 = .ok (.iadd, 1) := by decide +kernel
theorem dX12_isSo_13 : decode cX12_isSo 13 = .ok (.iaload, 1) := by decide +kernel
theorem dX12_isSo_14 : decode cX12_isSo 14 = .ok (.aload_n 0, 1) := by decide +kernel
theorem dX12_isSo_15 : decode cX12_isSo 15 = .ok (.getfield 8, 3) := by decide +kernel
theorem dX12_isSo_18 : decode cX12_isSo 18 = .ok (.iload_n 3, 1) := by decide +kernel
theorem dX12_isSo_19 : decode cX12_isSo 19 = .ok (.bipush 6, 2) := by decide +kernel
theorem dX12_isSo_21 : decode cX12_isSo 21 = .ok (.iadd, 1) := by decide +kernel
theorem dX12_isSo_22 : decode cX12_isSo 22 = .ok (.iaload, 1) := by decide +kernel
theorem dX12_isSo_23 : decode cX12_isSo 23 = .ok (.if_icmp .ge 43, 3) := by decide +kernel
theorem dX12_isSo_66 : decode cX12_isSo 66 = .ok (.aload_n 0, 1) := by decide +kernel
theorem dX12_isSo_67 : decode cX12_isSo 67 = .ok (.iload_n 1, 1) := by decide +kernel
theorem dX12_isSo_68 : decode cX12_isSo 68 = .ok (.aload_n 0, 1) := by decide +kernel
theorem dX12_isSo_69 : decode cX12_isSo 69 = .ok (.getfield 8, 3) := by decide +kernel
theorem dX12_isSo_72 : decode cX12_isSo 72 = .ok (.iload_n 3, 1) := by decide +kernel
theorem dX12_isSo_73 : decode cX12_isSo 73 = .ok (.iconst 3, 1) := by decide +kernel
theorem dX12_isSo_74 : decode cX12_isSo 74 = .ok (.iadd, 1) := by decide +kernel
theorem dX12_isSo_75 : decode cX12_isSo 75 = .ok (.iaload, 1) := by decide +kernel
theorem dX12_isSo_76 : decode cX12_isSo 76 = .ok (.aload_n 0, 1) := by decide +kernel
theorem dX12_isSo_77 : decode cX12_isSo 77 = .ok (.getfield 8, 3) := by decide +kernel
theorem dX12_isSo_80 : decode cX12_isSo 80 = .ok (.iload_n 3, 1) := by decide +kernel
theorem dX12_isSo_81 : decode cX12_isSo 81 = .ok (.iconst 4, 1) := by decide +kernel
theorem dX12_isSo_82 : decode cX12_isSo 82 = .ok (.iadd, 1) := by decide +kernel
theorem dX12_isSo_83 : decode cX12_isSo 83 = .ok (.iaload, 1) := by decide +kernel
theorem dX12_isSo_84 : decode cX12_isSo 84 = .ok (.invokevirtual 420, 3) := by decide +kernel
theorem dX12_isSo_87 : decode cX12_isSo 87 = .ok (.aload_n 0, 1) := by decide +kernel
theorem dX12_isSo_88 : decode cX12_isSo 88 = .ok (.aload_n 0, 1) := by decide +kernel
theorem dX12_isSo_89 : decode cX12_isSo 89 = .ok (.getfield 417, 3) := by decide +kernel
theorem dX12_isSo_92 : decode cX12_isSo 92 = .ok (.putfield 424, 3) := by decide +kernel
theorem dX12_isSo_95 : decode cX12_isSo 95 = .ok (.aload_n 0, 1) := by decide +kernel
theorem dX12_isSo_96 : decode cX12_isSo 96 = .ok (.getfield 406, 3) := by decide +kernel
theorem dX12_isSo_99 : decode cX12_isSo 99 = .ok (.ifCond .ne 7, 3) := by decide +kernel
theorem dX12_isSo_106 : decode cX12_isSo 106 = .ok (.iconst 0, 1) := by decide +kernel
theorem dX12_isSo_107 : decode cX12_isSo 107 = .ok (.ireturn, 1) := by decide +kernel
theorem dX12_isSo_102 : decode cX12_isSo 102 = .ok (.iconst 1, 1) := by decide +kernel
theorem dX12_isSo_103 : decode cX12_isSo 103 = .ok (.goto 4, 3) := by decide +kernel
theorem dX12_isSo_26 : decode cX12_isSo 26 = .ok (.aload_n 0, 1) := by decide +kernel
theorem dX12_isSo_27 : decode cX12_isSo 27 = .ok (.iload_n 1, 1) := by decide +kernel
theorem dX12_isSo_28 : decode cX12_isSo 28 = .ok (.aload_n 0, 1) := by decide +kernel
theorem dX12_isSo_29 : decode cX12_isSo 29 = .ok (.getfield 8, 3) := by decide +kernel
theorem dX12_isSo_32 : decode cX12_isSo 32 = .ok (.iload_n 3, 1) := by decide +kernel
theorem dX12_isSo_33 : decode cX12_isSo 33 = .ok (.iconst 5, 1) := by decide +kernel
theorem dX12_isSo_34 : decode cX12_isSo 34 = .ok (.iadd, 1) := by decide +kernel
theorem dX12_isSo_35 : decode cX12_isSo 35 = .ok (.iaload, 1) := by decide +kernel
theorem dX12_isSo_36 : decode cX12_isSo 36 = .ok (.aload_n 0, 1) := by decide +kernel
theorem dX12_isSo_37 : decode cX12_isSo 37 = .ok (.getfield 8, 3) := by decide +kernel
theorem dX12_isSo_40 : decode cX12_isSo 40 = .ok (.iload_n 3, 1) := by decide +kernel
theorem dX12_isSo_41 : decode cX12_isSo 41 = .ok (.bipush 6, 2) := by decide +kernel
theorem dX12_isSo_43 : decode cX12_isSo 43 = .ok (.iadd, 1) := by decide +kernel
theorem dX12_isSo_44 : decode cX12_isSo 44 = .ok (.iaload, 1) := by decide +kernel
theorem dX12_isSo_45 : decode cX12_isSo 45 = .ok (.invokevirtual 420, 3) := by decide +kernel
theorem dX12_isSo_48 : decode cX12_isSo 48 = .ok (.aload_n 0, 1) := by decide +kernel
theorem dX12_isSo_49 : decode cX12_isSo 49 = .ok (.getfield 406, 3) := by decide +kernel
theorem dX12_isSo_52 : decode cX12_isSo 52 = .ok (.ifCond .ne 12, 3) := by decide +kernel
theorem dX12_isSo_64 : decode cX12_isSo 64 = .ok (.iconst 0, 1) := by decide +kernel
theorem dX12_isSo_65 : decode cX12_isSo 65 = .ok (.ireturn, 1) := by decide +kernel
theorem dX12_isSo_55 : decode cX12_isSo 55 = .ok (.aload_n 0, 1) := by decide +kernel
theorem dX12_isSo_56 : decode cX12_isSo 56 = .ok (.getfield 417, 3) := by decide +kernel
theorem dX12_isSo_59 : decode cX12_isSo 59 = .ok (.lconst 0, 1) := by decide +kernel
theorem dX12_isSo_60 : decode cX12_isSo 60 = .ok (.lcmp, 1) := by decide +kernel
theorem dX12_isSo_61 : decode cX12_isSo 61 = .ok (.ifCond .ne 5, 3) := by decide +kernel
theorem dX12_setFor_0 : decode cX12_setFor 0 = .ok (.iconst 0, 1) := by decide +kernel
theorem dX12_setFor_1 : decode cX12_setFor 1 = .ok (.istore_n 3, 1) := by decide +kernel
theorem dX12_setFor_2 : decode cX12_setFor 2 = .ok (.iload_n 3, 1) := by decide +kernel
theorem dX12_setFor_3 : decode cX12_setFor 3 = .ok (.bipush 16, 2) := by decide +kernel
theorem dX12_setFor_5 : decode cX12_setFor 5 = .ok (.if_icmp .ge 16, 3) := by decide +kernel
theorem dX12_setFor_21 : decode cX12_setFor 21 = .ok (.aload_n 0, 1) := by decide +kernel
theorem dX12_setFor_22 : decode cX12_setFor 22 = .ok (.getfield 60, 3) := by decide +kernel
theorem dX12_setFor_25 : decode cX12_setFor 25 = .ok (.bipush 8, 2) := by decide +kernel
theorem dX12_setFor_27 : decode cX12_setFor 27 = .ok (.aload_n 0, 1) := by decide +kernel
theorem dX12_setFor_28 : decode cX12_setFor 28 = .ok (.getfield 8, 3) := by decide +kernel
theorem dX12_setFor_31 : decode cX12_setFor 31 = .ok (.bipush 8, 2) := by decide +kernel
theorem dX12_setFor_33 : decode cX12_setFor 33 = .ok (.iaload, 1) := by decide +kernel
theorem dX12_setFor_34 : decode cX12_setFor 34 = .ok (.i2l, 1) := by decide +kernel
theorem dX12_setFor_35 : decode cX12_setFor 35 = .ok (.lastore, 1) := by decide +kernel
theorem dX12_setFor_36 : decode cX12_setFor 36 = .ok (.aload_n 0, 1) := by decide +kernel
theorem dX12_setFor_37 : decode cX12_setFor 37 = .ok (.getfield 60, 3) := by decide +kernel
theorem dX12_setFor_40 : decode cX12_setFor 40 = .ok (.bipush 9, 2) := by decide +kernel
theorem dX12_setFor_42 : decode cX12_setFor 42 = .ok (.aload_n 0, 1) := by decide +kernel
theorem dX12_setFor_43 : decode cX12_setFor 43 = .ok (.invokevirtual 399, 3) := by decide +kernel
theorem dX12_setFor_46 : decode cX12_setFor 46 = .ok (.i2l, 1) := by decide +kernel
theorem dX12_setFor_47 : decode cX12_setFor 47 = .ok (.lastore, 1) := by decide +kernel
theorem dX12_setFor_48 : decode cX12_setFor 48 = .ok (.iload_n 2, 1) := by decide +kernel
theorem dX12_setFor_49 : decode cX12_setFor 49 = .ok (.iconst (-1), 1) := by decide +kernel
theorem dX12_setFor_50 : decode cX12_setFor 50 = .ok (.if_icmp .eq 67, 3) := by decide +kernel
theorem dX12_setFor_117 : decode cX12_setFor 117 = .ok (.iload_n 1, 1) := by decide +kernel
theorem dX12_setFor_118 : decode cX12_setFor 118 = .ok (.iconst (-1), 1) := by decide +kernel
theorem dX12_setFor_119 : decode cX12_setFor 119 = .ok (.if_icmp .eq 167, 3) := by decide +kernel
theorem dX12_setFor_286 : decode cX12_setFor 286 = .ok (.return_, 1) := by decide +kernel
theorem dX12_setFor_122 : decode cX12_setFor 122 = .ok (.iload_n 1, 1) := by decide +kernel
theorem dX12_setFor_123 : decode cX12_setFor 123 = .ok (.invokestatic 104, 3) := by decide +kernel
theorem dX12_setFor_126 : decode cX12_setFor 126 = .ok (.istore_n 3, 1) := by decide +kernel
theorem dX12_setFor_127 : decode cX12_setFor 127 = .ok (.aload_n 0, 1) := by decide +kernel
theorem dX12_setFor_128 : decode cX12_setFor 128 = .ok (.getfield 60, 3) := by decide +kernel
theorem dX12_setFor_131 : decode cX12_setFor 131 = .ok (.iconst 4, 1) := by decide +kernel
theorem dX12_setFor_132 : decode cX12_setFor 132 = .ok (.aload_n 0, 1) := by decide +kernel
theorem dX12_setFor_133 : decode cX12_setFor 133 = .ok (.getfield 8, 3) := by decide +kernel
theorem dX12_setFor_136 : decode cX12_setFor 136 = .ok (.iload_n 3, 1) := by decide +kernel
theorem dX12_setFor_137 : decode cX12_setFor 137 = .ok (.iconst 1, 1) := by decide +kernel
theorem dX12_setFor_138 : decode cX12_setFor 138 = .ok (.iadd, 1) := by decide +kernel
theorem dX12_setFor_139 : decode cX12_setFor 139 = .ok (.iaload, 1) := by decide +kernel
theorem dX12_setFor_140 : decode cX12_setFor 140 = .ok (.i2l, 1) := by decide +kernel
theorem dX12_setFor_141 : decode cX12_setFor 141 = .ok (.lastore, 1) := by decide +kernel
theorem dX12_setFor_142 : decode cX12_setFor 142 = .ok (.aload_n 0, 1) := by decide +kernel
theorem dX12_setFor_143 : decode cX12_setFor 143 = .ok (.getfield 60, 3) := by decide +kernel
theorem dX12_setFor_146 : decode cX12_setFor 146 = .ok (.iconst 5, 1) := by decide +kernel
theorem dX12_setFor_147 : decode cX12_setFor 147 = .ok (.aload_n 0, 1) := by decide +kernel
theorem dX12_setFor_148 : decode cX12_setFor 148 = .ok (.getfield 8, 3) := by decide +kernel
theorem dX12_setFor_151 : decode cX12_setFor 151 = .ok (.iload_n 3, 1) := by decide +kernel
theorem dX12_setFor_152 : decode cX12_setFor 152 = .ok (.iconst 4, 1) := by decide +kernel
theorem dX12_setFor_153 : decode cX12_setFor 153 = .ok (.iadd, 1) := by decide +kernel
theorem dX12_setFor_154 : decode cX12_setFor 154 = .ok (.iaload, 1) := by decide +kernel
theorem dX12_setFor_155 : decode cX12_setFor 155 = .ok (.i2l, 1) := by decide +kernel
theorem dX12_setFor_156 : decode cX12_setFor 156 = .ok (.lastore, 1) := by decide +kernel
theorem dX12_setFor_157 : decode cX12_setFor 157 = .ok (.aload_n 0, 1) := by decide +kernel
theorem dX12_setFor_158 : decode cX12_setFor 158 = .ok (.getfield 60, 3) := by decide +kernel
theorem dX12_setFor_161 : decode cX12_setFor 161 = .ok (.bipush 6, 2) := by decide +kernel
theorem dX12_setFor_163 : decode cX12_setFor 163 = .ok (.aload_n 0, 1) := by decide +kernel
theorem dX12_setFor_164 : decode cX12_setFor 164 = .ok (.getfield 8, 3) := by decide +kernel
theorem dX12_setFor_167 : decode cX12_setFor 167 = .ok (.iload_n 3, 1) := by decide +kernel
theorem dX12_setFor_168 : decode cX12_setFor 168 = .ok (.iconst 2, 1) := by decide +kernel
theorem dX12_setFor_169 : decode cX12_setFor 169 = .ok (.iadd, 1) := by decide +kernel
theorem dX12_setFor_170 : decode cX12_setFor 170 = .ok (.iaload, 1) := by decide +kernel
theorem dX12_setFor_171 : decode cX12_setFor 171 = .ok (.i2l, 1) := by decide +kernel
theorem dX12_setFor_172 : decode cX12_setFor 172 = .ok (.lastore, 1) := by decide +kernel
theorem dX12_setFor_173 : decode cX12_setFor 173 = .ok (.aload_n 0, 1) := by decide +kernel
theorem dX12_setFor_174 : decode cX12_setFor 174 = .ok (.getfield 60, 3) := by decide +kernel
theorem dX12_setFor_177 : decode cX12_setFor 177 = .ok (.bipush 7, 2) := by decide +kernel
theorem dX12_setFor_179 : decode cX12_setFor 179 = .ok (.aload_n 0, 1) := by decide +kernel
theorem dX12_setFor_180 : decode cX12_setFor 180 = .ok (.iload_n 1, 1) := by decide +kernel
theorem dX12_setFor_181 : decode cX12_setFor 181 = .ok (.invokevirtual 138, 3) := by decide +kernel
theorem dX12_setFor_184 : decode cX12_setFor 184 = .ok (.i2l, 1) := by decide +kernel
theorem dX12_setFor_185 : decode cX12_setFor 185 = .ok (.lastore, 1) := by decide +kernel
theorem dX12_setFor_186 : decode cX12_setFor 186 = .ok (.aload_n 0, 1) := by decide +kernel
theorem dX12_setFor_187 : decode cX12_setFor 187 = .ok (.getfield 60, 3) := by decide +kernel
theorem dX12_setFor_190 : decode cX12_setFor 190 = .ok (.bipush 11, 2) := by decide +kernel
theorem dX12_setFor_192 : decode cX12_setFor 192 = .ok (.aload_n 0, 1) := by decide +kernel
theorem dX12_setFor_193 : decode cX12_setFor 193 = .ok (.getfield 8, 3) := by decide +kernel
theorem dX12_setFor_196 : decode cX12_setFor 196 = .ok (.iload_n 3, 1) := by decide +kernel
theorem dX12_setFor_197 : decode cX12_setFor 197 = .ok (.iconst 0, 1) := by decide +kernel
theorem dX12_setFor_198 : decode cX12_setFor 198 = .ok (.iadd, 1) := by decide +kernel
theorem dX12_setFor_199 : decode cX12_setFor 199 = .ok (.iaload, 1) := by decide +kernel
theorem dX12_setFor_200 : decode cX12_setFor 200 = .ok (.i2l, 1) := by decide +kernel
theorem dX12_setFor_201 : decode cX12_setFor 201 = .ok (.lastore, 1) := by decide +kernel
theorem dX12_setFor_202 : decode cX12_setFor 202 = .ok (.aload_n 0, 1) := by decide +kernel
theorem dX12_setFor_203 : decode cX12_setFor 203 = .ok (.getfield 60, 3) := by decide +kernel
theorem dX12_setFor_206 : decode cX12_setFor 206 = .ok (.bipush 12, 2) := by decide +kernel
theorem dX12_setFor_208 : decode cX12_setFor 208 = .ok (.aload_n 0, 1) := by decide +kernel
theorem dX12_setFor_209 : decode cX12_setFor 209 = .ok (.iload_n 1, 1) := by decide +kernel
theorem dX12_setFor_210 : decode cX12_setFor 210 = .ok (.iconst 0, 1) := by decide +kernel
theorem dX12_setFor_211 : decode cX12_setFor 211 = .ok (.invokevirtual 402, 3) := by decide +kernel
theorem dX12_setFor_214 : decode cX12_setFor 214 = .ok (.ifCond .eq 7, 3) := by decide +kernel
theorem dX12_setFor_222 : decode cX12_setFor 222 = .ok (.lastore, 1) := by decide +kernel
theorem dX12_setFor_223 : decode cX12_setFor 223 = .ok (.aload_n 0, 1) := by decide +kernel
theorem dX12_setFor_224 : decode cX12_setFor 224 = .ok (.getfield 60, 3) := by decide +kernel
theorem dX12_setFor_227 : decode cX12_setFor 227 = .ok (.bipush 13, 2) := by decide +kernel
theorem dX12_setFor_229 : decode cX12_setFor 229 = .ok (.aload_n 0, 1) := by decide +kernel
theorem dX12_setFor_230 : decode cX12_setFor 230 = .ok (.getfield 8, 3) := by decide +kernel
theorem dX12_setFor_233 : decode cX12_setFor 233 = .ok (.iload_n 3, 1) := by decide +kernel
theorem dX12_setFor_234 : decode cX12_setFor 234 = .ok (.bipush 7, 2) := by decide +kernel
theorem dX12_setFor_236 : decode cX12_setFor 236 = .ok (.iadd, 1) := by decide +kernel
theorem dX12_setFor_237 : decode cX12_setFor 237 = .ok (.iaload, 1) := by decide +kernel
theorem dX12_setFor_238 : decode cX12_setFor 238 = .ok (.iconst (-1), 1) := by decide +kernel
theorem dX12_setFor_239 : decode cX12_setFor 239 = .ok (.if_icmp .eq 7, 3) := by decide +kernel
theorem dX12_setFor_247 : decode cX12_setFor 247 = .ok (.lastore, 1) := by decide +kernel
theorem dX12_setFor_248 : decode cX12_setFor 248 = .ok (.aload_n 0, 1) := by decide +kernel
theorem dX12_setFor_249 : decode cX12_setFor 249 = .ok (.getfield 60, 3) := by decide +kernel
theorem dX12_setFor_252 : decode cX12_setFor 252 = .ok (.bipush 14, 2) := by decide +kernel
theorem dX12_setFor_254 : decode cX12_setFor 254 = .ok (.aload_n 0, 1) := by decide +kernel
theorem dX12_setFor_255 : decode cX12_setFor 255 = .ok (.getfield 8, 3) := by decide +kernel
theorem dX12_setFor_258 : decode cX12_setFor 258 = .ok (.iload_n 3, 1) := by decide +kernel
theorem dX12_setFor_259 : decode cX12_setFor 259 = .ok (.bipush 6, 2) := by decide +kernel
theorem dX12_setFor_261 : decode cX12_setFor 261 = .ok (.iadd, 1) := by decide +kernel
theorem dX12_setFor_262 : decode cX12_setFor 262 = .ok (.iaload, 1) := by decide +kernel
theorem dX12_setFor_263 : decode cX12_setFor 263 = .ok (.i2l, 1) := by decide +kernel
theorem dX12_setFor_264 : decode cX12_setFor 264 = .ok (.lastore, 1) := by decide +kernel
theorem dX12_setFor_265 : decode cX12_setFor 265 = .ok (.aload_n 0, 1) := by decide +kernel
theorem dX12_setFor_266 : decode cX12_setFor 266 = .ok (.getfield 60, 3) := by decide +kernel
theorem dX12_setFor_269 : decode cX12_setFor 269 = .ok (.bipush 15, 2) := by decide +kernel
theorem dX12_setFor_271 : decode cX12_setFor 271 = .ok (.aload_n 0, 1) := by decide +kernel
theorem dX12_setFor_272 : decode cX12_setFor 272 = .ok (.iload_n 1, 1) := by decide +kernel
theorem dX12_setFor_273 : decode cX12_setFor 273 = .ok (.iconst 1, 1) := by decide +kernel
theorem dX12_setFor_274 : decode cX12_setFor 274 = .ok (.invokevirtual 402, 3) := by decide +kernel
theorem dX12_setFor_277 : decode cX12_setFor 277 = .ok (.ifCond .eq 7, 3) := by decide +kernel
theorem dX12_setFor_285 : decode cX12_setFor 285 = .ok (.lastore, 1) := by decide +kernel
theorem dX12_setFor_284 : decode cX12_setFor 284 = .ok (.lconst 0, 1) := by decide +kernel
theorem dX12_setFor_280 : decode cX12_setFor 280 = .ok (.lconst 1, 1) := by decide +kernel
theorem dX12_setFor_281 : decode cX12_setFor 281 = .ok (.goto 4, 3) := by decide +kernel
theorem dX12_setFor_246 : decode cX12_setFor 246 = .ok (.lconst 0, 1) := by decide +kernel
theorem dX12_setFor_242 : decode cX12_setFor 242 = .ok (.lconst 1, 1) := by decide +kernel
theorem dX12_setFor_243 : decode cX12_setFor 243 = .ok (.goto 4, 3) := by decide +kernel
theorem dX12_setFor_221 : decode cX12_setFor 221 = .ok (.lconst 0, 1) := by decide +kernel
theorem dX12_setFor_217 : decode cX12_setFor 217 = .ok (.lconst 1, 1) := by decide +kernel
theorem dX12_setFor_218 : decode cX12_setFor 218 = .ok (.goto 4, 3) := by decide +kernel
theorem dX12_setFor_53 : decode cX12_setFor 53 = .ok (.iload_n 2, 1) := by decide +kernel
theorem dX12_setFor_54 : decode cX12_setFor 54 = .ok (.invokestatic 135, 3) := by decide +kernel
theorem dX12_setFor_57 : decode cX12_setFor 57 = .ok (.istore_n 3, 1) := by decide +kernel
theorem dX12_setFor_58 : decode cX12_setFor 58 = .ok (.aload_n 0, 1) := by decide +kernel
theorem dX12_setFor_59 : decode cX12_setFor 59 = .ok (.getfield 60, 3) := by decide +kernel
theorem dX12_setFor_62 : decode cX12_setFor 62 = .ok (.iconst 1, 1) := by decide +kernel
theorem dX12_setFor_63 : decode cX12_setFor 63 = .ok (.aload_n 0, 1) := by decide +kernel
theorem dX12_setFor_64 : decode cX12_setFor 64 = .ok (.getfield 8, 3) := by decide +kernel
theorem dX12_setFor_67 : decode cX12_setFor 67 = .ok (.iload_n 3, 1) := by decide +kernel
theorem dX12_setFor_68 : decode cX12_setFor 68 = .ok (.iconst 1, 1) := by decide +kernel
theorem dX12_setFor_69 : decode cX12_setFor 69 = .ok (.iadd, 1) := by decide +kernel
theorem dX12_setFor_70 : decode cX12_setFor 70 = .ok (.iaload, 1) := by decide +kernel
theorem dX12_setFor_71 : decode cX12_setFor 71 = .ok (.i2l, 1) := by decide +kernel
theorem dX12_setFor_72 : decode cX12_setFor 72 = .ok (.lastore, 1) := by decide +kernel
theorem dX12_setFor_73 : decode cX12_setFor 73 = .ok (.aload_n 0, 1) := by decide +kernel
theorem dX12_setFor_74 : decode cX12_setFor 74 = .ok (.getfield 60, 3) := by decide +kernel
theorem dX12_setFor_77 : decode cX12_setFor 77 = .ok (.iconst 2, 1) := by decide +kernel
theorem dX12_setFor_78 : decode cX12_setFor 78 = .ok (.aload_n 0, 1) := by decide +kernel
theorem dX12_setFor_79 : decode cX12_setFor 79 = .ok (.getfield 8, 3) := by decide +kernel
theorem dX12_setFor_82 : decode cX12_setFor 82 = .ok (.iload_n 3, 1) := by decide +kernel
theorem dX12_setFor_83 : decode cX12_setFor 83 = .ok (.iconst 2, 1) := by decide +kernel
theorem dX12_setFor_84 : decode cX12_setFor 84 = .ok (.iadd, 1) := by decide +kernel
theorem dX12_setFor_85 : decode cX12_setFor 85 = .ok (.iaload, 1) := by decide +kernel
theorem dX12_setFor_86 : decode cX12_setFor 86 = .ok (.i2l, 1) := by decide +kernel
theorem dX12_setFor_87 : decode cX12_setFor 87 = .ok (.lastore, 1) := by decide +kernel
theorem dX12_setFor_88 : decode cX12_setFor 88 = .ok (.aload_n 0, 1) := by decide +kernel
theorem dX12_setFor_89 : decode cX12_setFor 89 = .ok (.getfield 60, 3) := by decide +kernel
theorem dX12_setFor_92 : decode cX12_setFor 92 = .ok (.iconst 3, 1) := by decide +kernel
theorem dX12_setFor_93 : decode cX12_setFor 93 = .ok (.aload_n 0, 1) := by decide +kernel
theorem dX12_setFor_94 : decode cX12_setFor 94 = .ok (.getfield 8, 3) := by decide +kernel
theorem dX12_setFor_97 : decode cX12_setFor 97 = .ok (.iload_n 3, 1) := by decide +kernel
theorem dX12_setFor_98 : decode cX12_setFor 98 = .ok (.iconst 4, 1) := by decide +kernel
theorem dX12_setFor_99 : decode cX12_setFor 99 = .ok (.iadd, 1) := by decide +kernel
theorem dX12_setFor_100 : decode cX12_setFor 100 = .ok (.iaload, 1) := by decide +kernel
theorem dX12_setFor_101 : decode cX12_setFor 101 = .ok (.i2l, 1) := by decide +kernel
theorem dX12_setFor_102 : decode cX12_setFor 102 = .ok (.lastore, 1) := by decide +kernel
theorem dX12_setFor_103 : decode cX12_setFor 103 = .ok (.aload_n 0, 1) := by decide +kernel
theorem dX12_setFor_104 : decode cX12_setFor 104 = .ok (.getfield 60, 3) := by decide +kernel
theorem dX12_setFor_107 : decode cX12_setFor 107 = .ok (.bipush 10, 2) := by decide +kernel
theorem dX12_setFor_109 : decode cX12_setFor 109 = .ok (.aload_n 0, 1) := by decide +kernel
theorem dX12_setFor_110 : decode cX12_setFor 110 = .ok (.getfield 8, 3) := by decide +kernel
theorem dX12_setFor_113 : decode cX12_setFor 113 = .ok (.iload_n 3, 1) := by decide +kernel
theorem dX12_setFor_114 : decode cX12_setFor 114 = .ok (.iaload, 1) := by decide +kernel
theorem dX12_setFor_115 : decode cX12_setFor 115 = .ok (.i2l, 1) := by decide +kernel
theorem dX12_setFor_116 : decode cX12_setFor 116 = .ok (.lastore, 1) := by decide +kernel
theorem dX12_setFor_8 : decode cX12_setFor 8 = .ok (.aload_n 0, 1) := by decide +kernel
theorem dX12_setFor_9 : decode cX12_setFor 9 = .ok (.getfield 60, 3) := by decide +kernel
theorem dX12_setFor_12 : decode cX12_setFor 12 = .ok (.iload_n 3, 1) := by decide +kernel
theorem dX12_setFor_13 : decode cX12_setFor 13 = .ok (.lconst 0, 1) := by decide +kernel
theorem dX12_setFor_14 : decode cX12_setFor 14 = .ok (.lastore, 1) := by decide +kernel
theorem dX12_setFor_15 : decode cX12_setFor 15 = .ok (.iinc 3 1, 3) := by decide +kernel
theorem dX12_setFor_18 : decode cX12_setFor 18 = .ok (.goto (-16), 3) := by decide +kernel
theorem dX12_find_0 : decode cX12_find 0 = .ok (.iconst 0, 1) := by decide +kernel
theorem dX12_find_1 : decode cX12_find 1 = .ok (.istore 4, 2) := by decide +kernel
theorem dX12_find_3 : decode cX12_find 3 = .ok (.aload_n 0, 1) := by decide +kernel
theorem dX12_find_4 : decode cX12_find 4 = .ok (.lconst 0, 1) := by decide +kernel
theorem dX12_find_5 : decode cX12_find 5 = .ok (.putfield 427, 3) := by decide +kernel
theorem dX12_find_8 : decode cX12_find 8 = .ok (.aload_n 0, 1) := by decide +kernel
theorem dX12_find_9 : decode cX12_find 9 = .ok (.lconst 0, 1) := by decide +kernel
theorem dX12_find_10 : decode cX12_find 10 = .ok (.putfield 430, 3) := by decide +kernel
theorem dX12_find_13 : decode cX12_find 13 = .ok (.aload_n 0, 1) := by decide +kernel
theorem dX12_find_14 : decode cX12_find 14 = .ok (.iload_n 2, 1) := by decide +kernel
theorem dX12_find_15 : decode cX12_find 15 = .ok (.iload_n 3, 1) := by decide +kernel
theorem dX12_find_16 : decode cX12_find 16 = .ok (.invokevirtual 433, 3) := by decide +kernel
theorem dX12_find_19 : decode cX12_find 19 = .ok (.iconst 0, 1) := by decide +kernel
theorem dX12_find_20 : decode cX12_find 20 = .ok (.istore 5, 2) := by decide +kernel
theorem dX12_find_22 : decode cX12_find 22 = .ok (.iload 5, 2) := by decide +kernel
theorem dX12_find_24 : decode cX12_find 24 = .ok (.aload_n 0, 1) := by decide +kernel
theorem dX12_find_25 : decode cX12_find 25 = .ok (.getfield 8, 3) := by decide +kernel
theorem dX12_find_28 : decode cX12_find 28 = .ok (.iconst 3, 1) := by decide +kernel
theorem dX12_find_29 : decode cX12_find 29 = .ok (.iaload, 1) := by decide +kernel
theorem dX12_find_30 : decode cX12_find 30 = .ok (.if_icmp .ge 97, 3) := by decide +kernel
theorem dX12_find_127 : decode cX12_find 127 = .ok (.iload 4, 2) := by decide +kernel
theorem dX12_find_129 : decode cX12_find 129 = .ok (.ireturn, 1) := by decide +kernel
theorem dX12_find_33 : decode cX12_find 33 = .ok (.iconst 0, 1) := by decide +kernel
theorem dX12_find_34 : decode cX12_find 34 = .ok (.istore 6, 2) := by decide +kernel
theorem dX12_find_36 : decode cX12_find 36 = .ok (.iload 6, 2) := by decide +kernel
theorem dX12_find_38 : decode cX12_find 38 = .ok (.aload_n 0, 1) := by decide +kernel
theorem dX12_find_39 : decode cX12_find 39 = .ok (.getfield 8, 3) := by decide +kernel
theorem dX12_find_42 : decode cX12_find 42 = .ok (.iload 5, 2) := by decide +kernel
theorem dX12_find_44 : decode cX12_find 44 = .ok (.invokestatic 382, 3) := by decide +kernel
theorem dX12_find_47 : decode cX12_find 47 = .ok (.iconst 1, 1) := by decide +kernel
theorem dX12_find_48 : decode cX12_find 48 = .ok (.iadd, 1) := by decide +kernel
theorem dX12_find_49 : decode cX12_find 49 = .ok (.iaload, 1) := by decide +kernel
theorem dX12_find_50 : decode cX12_find 50 = .ok (.if_icmp .ge 71, 3) := by decide +kernel
theorem dX12_find_121 : decode cX12_find 121 = .ok (.iinc 5 1, 3) := by decide +kernel
theorem dX12_find_124 : decode cX12_find 124 = .ok (.goto (-102), 3) := by decide +kernel
theorem dX12_find_53 : decode cX12_find 53 = .ok (.aload_n 0, 1) := by decide +kernel
theorem dX12_find_54 : decode cX12_find 54 = .ok (.getfield 8, 3) := by decide +kernel
theorem dX12_find_57 : decode cX12_find 57 = .ok (.iload 5, 2) := by decide +kernel
theorem dX12_find_59 : decode cX12_find 59 = .ok (.iload 6, 2) := by decide +kernel
theorem dX12_find_61 : decode cX12_find 61 = .ok (.invokestatic 388, 3) := by decide +kernel
theorem dX12_find_64 : decode cX12_find 64 = .ok (.iaload, 1) := by decide +kernel
theorem dX12_find_65 : decode cX12_find 65 = .ok (.iload_n 1, 1) := by decide +kernel
theorem dX12_find_66 : decode cX12_find 66 = .ok (.if_icmp .ne 49, 3) := by decide +kernel
theorem dX12_find_115 : decode cX12_find 115 = .ok (.iinc 6 1, 3) := by decide +kernel
theorem dX12_find_118 : decode cX12_find 118 = .ok (.goto (-82), 3) := by decide +kernel
theorem dX12_find_69 : decode cX12_find 69 = .ok (.aload_n 0, 1) := by decide +kernel
theorem dX12_find_70 : decode cX12_find 70 = .ok (.iload 5, 2) := by decide +kernel
theorem dX12_find_72 : decode cX12_find 72 = .ok (.iload 6, 2) := by decide +kernel
theorem dX12_find_74 : decode cX12_find 74 = .ok (.invokevirtual 395, 3) := by decide +kernel
theorem dX12_find_77 : decode cX12_find 77 = .ok (.ifCond .eq 38, 3) := by decide +kernel
theorem dX12_find_80 : decode cX12_find 80 = .ok (.aload_n 0, 1) := by decide +kernel
theorem dX12_find_81 : decode cX12_find 81 = .ok (.iload 5, 2) := by decide +kernel
theorem dX12_find_83 : decode cX12_find 83 = .ok (.iload 6, 2) := by decide +kernel
theorem dX12_find_85 : decode cX12_find 85 = .ok (.invokevirtual 436, 3) := by decide +kernel
theorem dX12_find_88 : decode cX12_find 88 = .ok (.ifCond .eq 27, 3) := by decide +kernel
theorem dX12_find_91 : decode cX12_find 91 = .ok (.iconst 1, 1) := by decide +kernel
theorem dX12_find_92 : decode cX12_find 92 = .ok (.istore 4, 2) := by decide +kernel
theorem dX12_find_94 : decode cX12_find 94 = .ok (.aload_n 0, 1) := by decide +kernel
theorem dX12_find_95 : decode cX12_find 95 = .ok (.aload_n 0, 1) := by decide +kernel
theorem dX12_find_96 : decode cX12_find 96 = .ok (.getfield 424, 3) := by decide +kernel
theorem dX12_find_99 : decode cX12_find 99 = .ok (.putfield 427, 3) := by decide +kernel
theorem dX12_find_102 : decode cX12_find 102 = .ok (.aload_n 0, 1) := by decide +kernel
theorem dX12_find_103 : decode cX12_find 103 = .ok (.dup, 1) := by decide +kernel
theorem dX12_find_104 : decode cX12_find 104 = .ok (.getfield 430, 3) := by decide +kernel
theorem dX12_find_107 : decode cX12_find 107 = .ok (.aload_n 0, 1) := by decide +kernel
theorem dX12_find_108 : decode cX12_find 108 = .ok (.getfield 424, 3) := by decide +kernel
theorem dX12_find_111 : decode cX12_find 111 = .ok (.ladd, 1) := by decide +kernel
theorem dX12_find_112 : decode cX12_find 112 = .ok (.putfield 430, 3) := by decide +kernel
theorem dX12_holds_0 : decode cX12_holds 0 = .ok (.aload_n 0, 1) := by decide +kernel
theorem dX12_holds_1 : decode cX12_holds 1 = .ok (.iconst 0, 1) := by decide +kernel
theorem dX12_holds_2 : decode cX12_holds 2 = .ok (.putfield 82, 3) := by decide +kernel
theorem dX12_holds_5 : decode cX12_holds 5 = .ok (.iload_n 1, 1) := by decide +kernel
theorem dX12_holds_6 : decode cX12_holds 6 = .ok (.i2l, 1) := by decide +kernel
theorem dX12_holds_7 : decode cX12_holds 7 = .ok (.lconst 0, 1) := by decide +kernel
theorem dX12_holds_8 : decode cX12_holds 8 = .ok (.aload_n 0, 1) := by decide +kernel
theorem dX12_holds_9 : decode cX12_holds 9 = .ok (.getfield 8, 3) := by decide +kernel
theorem dX12_holds_12 : decode cX12_holds 12 = .ok (.iconst 3, 1) := by decide +kernel
theorem dX12_holds_13 : decode cX12_holds 13 = .ok (.iaload, 1) := by decide +kernel
theorem dX12_holds_14 : decode cX12_holds 14 = .ok (.i2l, 1) := by decide +kernel
theorem dX12_holds_15 : decode cX12_holds 15 = .ok (.lconst 1, 1) := by decide +kernel
theorem dX12_holds_16 : decode cX12_holds 16 = .ok (.lsub, 1) := by decide +kernel
theorem dX12_holds_17 : decode cX12_holds 17 = .ok (.invokestatic 90, 3) := by decide +kernel
theorem dX12_holds_20 : decode cX12_holds 20 = .ok (.ifCond .eq 54, 3) := by decide +kernel
theorem dX12_holds_74 : decode cX12_holds 74 = .ok (.iconst (-1), 1) := by decide +kernel
theorem dX12_holds_75 : decode cX12_holds 75 = .ok (.ireturn, 1) := by decide +kernel
theorem dX12_holds_23 : decode cX12_holds 23 = .ok (.iload_n 2, 1) := by decide +kernel
theorem dX12_holds_24 : decode cX12_holds 24 = .ok (.i2l, 1) := by decide +kernel
theorem dX12_holds_25 : decode cX12_holds 25 = .ok (.lconst 0, 1) := by decide +kernel
theorem dX12_holds_26 : decode cX12_holds 26 = .ok (.aload_n 0, 1) := by decide +kernel
theorem dX12_holds_27 : decode cX12_holds 27 = .ok (.getfield 8, 3) := by decide +kernel
theorem dX12_holds_30 : decode cX12_holds 30 = .ok (.iload_n 1, 1) := by decide +kernel
theorem dX12_holds_31 : decode cX12_holds 31 = .ok (.invokestatic 382, 3) := by decide +kernel
theorem dX12_holds_34 : decode cX12_holds 34 = .ok (.iconst 1, 1) := by decide +kernel
theorem dX12_holds_35 : decode cX12_holds 35 = .ok (.iadd, 1) := by decide +kernel
theorem dX12_holds_36 : decode cX12_holds 36 = .ok (.iaload, 1) := by decide +kernel
theorem dX12_holds_37 : decode cX12_holds 37 = .ok (.i2l, 1) := by decide +kernel
theorem dX12_holds_38 : decode cX12_holds 38 = .ok (.lconst 1, 1) := by decide +kernel
theorem dX12_holds_39 : decode cX12_holds 39 = .ok (.lsub, 1) := by decide +kernel
theorem dX12_holds_40 : decode cX12_holds 40 = .ok (.invokestatic 90, 3) := by decide +kernel
theorem dX12_holds_43 : decode cX12_holds 43 = .ok (.ifCond .eq 31, 3) := by decide +kernel
theorem dX12_holds_46 : decode cX12_holds 46 = .ok (.iload_n 3, 1) := by decide +kernel
theorem dX12_holds_47 : decode cX12_holds 47 = .ok (.iconst (-1), 1) := by decide +kernel
theorem dX12_holds_48 : decode cX12_holds 48 = .ok (.if_icmp .eq 11, 3) := by decide +kernel
theorem dX12_holds_59 : decode cX12_holds 59 = .ok (.iload 4, 2) := by decide +kernel
theorem dX12_holds_61 : decode cX12_holds 61 = .ok (.iconst (-1), 1) := by decide +kernel
theorem dX12_holds_62 : decode cX12_holds 62 = .ok (.if_icmp .eq 14, 3) := by decide +kernel
theorem dX12_holds_76 : decode cX12_holds 76 = .ok (.aload_n 0, 1) := by decide +kernel
theorem dX12_holds_77 : decode cX12_holds 77 = .ok (.invokevirtual 147, 3) := by decide +kernel
theorem dX12_holds_80 : decode cX12_holds 80 = .ok (.aload_n 0, 1) := by decide +kernel
theorem dX12_holds_81 : decode cX12_holds 81 = .ok (.iload_n 3, 1) := by decide +kernel
theorem dX12_holds_82 : decode cX12_holds 82 = .ok (.iload 4, 2) := by decide +kernel
theorem dX12_holds_84 : decode cX12_holds 84 = .ok (.invokevirtual 433, 3) := by decide +kernel
theorem dX12_holds_87 : decode cX12_holds 87 = .ok (.aload_n 0, 1) := by decide +kernel
theorem dX12_holds_88 : decode cX12_holds 88 = .ok (.getfield 8, 3) := by decide +kernel
theorem dX12_holds_91 : decode cX12_holds 91 = .ok (.iload_n 1, 1) := by decide +kernel
theorem dX12_holds_92 : decode cX12_holds 92 = .ok (.iload_n 2, 1) := by decide +kernel
theorem dX12_holds_93 : decode cX12_holds 93 = .ok (.invokestatic 388, 3) := by decide +kernel
theorem dX12_holds_96 : decode cX12_holds 96 = .ok (.iaload, 1) := by decide +kernel
theorem dX12_holds_97 : decode cX12_holds 97 = .ok (.iconst 2, 1) := by decide +kernel
theorem dX12_holds_98 : decode cX12_holds 98 = .ok (.if_icmp .lt 25, 3) := by decide +kernel
theorem dX12_holds_124 : decode cX12_holds 124 = .ok (.ireturn, 1) := by decide +kernel
theorem dX12_holds_123 : decode cX12_holds 123 = .ok (.iconst 0, 1) := by decide +kernel
theorem dX12_holds_101 : decode cX12_holds 101 = .ok (.aload_n 0, 1) := by decide +kernel
theorem dX12_holds_102 : decode cX12_holds 102 = .ok (.iload_n 1, 1) := by decide +kernel
theorem dX12_holds_103 : decode cX12_holds 103 = .ok (.iload_n 2, 1) := by decide +kernel
theorem dX12_holds_104 : decode cX12_holds 104 = .ok (.invokevirtual 395, 3) := by decide +kernel
theorem dX12_holds_107 : decode cX12_holds 107 = .ok (.ifCond .eq 16, 3) := by decide +kernel
theorem dX12_holds_110 : decode cX12_holds 110 = .ok (.aload_n 0, 1) := by decide +kernel
theorem dX12_holds_111 : decode cX12_holds 111 = .ok (.iload_n 1, 1) := by decide +kernel
theorem dX12_holds_112 : decode cX12_holds 112 = .ok (.iload_n 2, 1) := by decide +kernel
theorem dX12_holds_113 : decode cX12_holds 113 = .ok (.invokevirtual 436, 3) := by decide +kernel
theorem dX12_holds_116 : decode cX12_holds 116 = .ok (.ifCond .eq 7, 3) := by decide +kernel
theorem dX12_holds_119 : decode cX12_holds 119 = .ok (.iconst 1, 1) := by decide +kernel
theorem dX12_holds_120 : decode cX12_holds 120 = .ok (.goto 4, 3) := by decide +kernel
theorem dX12_holds_65 : decode cX12_holds 65 = .ok (.aload_n 0, 1) := by decide +kernel
theorem dX12_holds_66 : decode cX12_holds 66 = .ok (.iload 4, 2) := by decide +kernel
theorem dX12_holds_68 : decode cX12_holds 68 = .ok (.invokevirtual 141, 3) := by decide +kernel
theorem dX12_holds_71 : decode cX12_holds 71 = .ok (.ifCond .ne 5, 3) := by decide +kernel
theorem dX12_holds_51 : decode cX12_holds 51 = .ok (.aload_n 0, 1) := by decide +kernel
theorem dX12_holds_52 : decode cX12_holds 52 = .ok (.iload_n 3, 1) := by decide +kernel
theorem dX12_holds_53 : decode cX12_holds 53 = .ok (.invokevirtual 111, 3) := by decide +kernel
theorem dX12_holds_56 : decode cX12_holds 56 = .ok (.ifCond .eq 18, 3) := by decide +kernel
theorem dX12_fairOf_0 : decode cX12_fairOf 0 = .ok (.aload_n 0, 1) := by decide +kernel
theorem dX12_fairOf_1 : decode cX12_fairOf 1 = .ok (.iload_n 1, 1) := by decide +kernel
theorem dX12_fairOf_2 : decode cX12_fairOf 2 = .ok (.invokevirtual 439, 3) := by decide +kernel
theorem dX12_fairOf_5 : decode cX12_fairOf 5 = .ok (.istore_n 2, 1) := by decide +kernel
theorem dX12_fairOf_6 : decode cX12_fairOf 6 = .ok (.aload_n 0, 1) := by decide +kernel
theorem dX12_fairOf_7 : decode cX12_fairOf 7 = .ok (.iconst 2, 1) := by decide +kernel
theorem dX12_fairOf_8 : decode cX12_fairOf 8 = .ok (.aload_n 0, 1) := by decide +kernel
theorem dX12_fairOf_9 : decode cX12_fairOf 9 = .ok (.getfield 8, 3) := by decide +kernel
theorem dX12_fairOf_12 : decode cX12_fairOf 12 = .ok (.iload_n 1, 1) := by decide +kernel
theorem dX12_fairOf_13 : decode cX12_fairOf 13 = .ok (.invokestatic 135, 3) := by decide +kernel
theorem dX12_fairOf_16 : decode cX12_fairOf 16 = .ok (.iconst 3, 1) := by decide +kernel
theorem dX12_fairOf_17 : decode cX12_fairOf 17 = .ok (.iadd, 1) := by decide +kernel
theorem dX12_fairOf_18 : decode cX12_fairOf 18 = .ok (.iaload, 1) := by decide +kernel
theorem dX12_fairOf_19 : decode cX12_fairOf 19 = .ok (.iload_n 1, 1) := by decide +kernel
theorem dX12_fairOf_20 : decode cX12_fairOf 20 = .ok (.invokevirtual 442, 3) := by decide +kernel
theorem dX12_fairOf_23 : decode cX12_fairOf 23 = .ok (.ifCond .ne 5, 3) := by decide +kernel
theorem dX12_fairOf_28 : decode cX12_fairOf 28 = .ok (.aload_n 0, 1) := by decide +kernel
theorem dX12_fairOf_29 : decode cX12_fairOf 29 = .ok (.getfield 427, 3) := by decide +kernel
theorem dX12_fairOf_32 : decode cX12_fairOf 32 = .ok (.lconst 0, 1) := by decide +kernel
theorem dX12_fairOf_33 : decode cX12_fairOf 33 = .ok (.lcmp, 1) := by decide +kernel
theorem dX12_fairOf_34 : decode cX12_fairOf 34 = .ok (.ifCond .ge 7, 3) := by decide +kernel
theorem dX12_fairOf_60 : decode cX12_fairOf 60 = .ok (.ireturn, 1) := by decide +kernel
theorem dX12_fairOf_41 : decode cX12_fairOf 41 = .ok (.aload_n 0, 1) := by decide +kernel
theorem dX12_fairOf_42 : decode cX12_fairOf 42 = .ok (.getfield 427, 3) := by decide +kernel
theorem dX12_fairOf_45 : decode cX12_fairOf 45 = .ok (.iload_n 2, 1) := by decide +kernel
theorem dX12_fairOf_46 : decode cX12_fairOf 46 = .ok (.i2l, 1) := by decide +kernel
theorem dX12_fairOf_47 : decode cX12_fairOf 47 = .ok (.lcmp, 1) := by decide +kernel
theorem dX12_fairOf_48 : decode cX12_fairOf 48 = .ok (.ifCond .le 7, 3) := by decide +kernel
theorem dX12_fairOf_55 : decode cX12_fairOf 55 = .ok (.aload_n 0, 1) := by decide +kernel
theorem dX12_fairOf_56 : decode cX12_fairOf 56 = .ok (.getfield 427, 3) := by decide +kernel
theorem dX12_fairOf_59 : decode cX12_fairOf 59 = .ok (.l2i, 1) := by decide +kernel
theorem dX12_fairOf_51 : decode cX12_fairOf 51 = .ok (.iload_n 2, 1) := by decide +kernel
theorem dX12_fairOf_52 : decode cX12_fairOf 52 = .ok (.goto 8, 3) := by decide +kernel
theorem dX12_fairOf_37 : decode cX12_fairOf 37 = .ok (.iconst 0, 1) := by decide +kernel
theorem dX12_fairOf_38 : decode cX12_fairOf 38 = .ok (.goto 22, 3) := by decide +kernel
theorem dX12_fairOf_26 : decode cX12_fairOf 26 = .ok (.iload_n 2, 1) := by decide +kernel
theorem dX12_fairOf_27 : decode cX12_fairOf 27 = .ok (.ireturn, 1) := by decide +kernel
theorem dX12_keepsField_0 : decode cX12_keepsField 0 = .ok (.iconst 0, 1) := by decide +kernel
theorem dX12_keepsField_1 : decode cX12_keepsField 1 = .ok (.istore_n 2, 1) := by decide +kernel
theorem dX12_keepsField_2 : decode cX12_keepsField 2 = .ok (.iload_n 2, 1) := by decide +kernel
theorem dX12_keepsField_3 : decode cX12_keepsField 3 = .ok (.aload_n 0, 1) := by decide +kernel
theorem dX12_keepsField_4 : decode cX12_keepsField 4 = .ok (.getfield 446, 3) := by decide +kernel
theorem dX12_keepsField_7 : decode cX12_keepsField 7 = .ok (.if_icmp .ge 44, 3) := by decide +kernel
theorem dX12_keepsField_51 : decode cX12_keepsField 51 = .ok (.aload_n 0, 1) := by decide +kernel
theorem dX12_keepsField_52 : decode cX12_keepsField 52 = .ok (.iconst 4, 1) := by decide +kernel
theorem dX12_keepsField_53 : decode cX12_keepsField 53 = .ok (.aload_n 0, 1) := by decide +kernel
theorem dX12_keepsField_54 : decode cX12_keepsField 54 = .ok (.getfield 8, 3) := by decide +kernel
theorem dX12_keepsField_57 : decode cX12_keepsField 57 = .ok (.iload_n 1, 1) := by decide +kernel
theorem dX12_keepsField_58 : decode cX12_keepsField 58 = .ok (.invokestatic 135, 3) := by decide +kernel
theorem dX12_keepsField_61 : decode cX12_keepsField 61 = .ok (.iconst 3, 1) := by decide +kernel
theorem dX12_keepsField_62 : decode cX12_keepsField 62 = .ok (.iadd, 1) := by decide +kernel
theorem dX12_keepsField_63 : decode cX12_keepsField 63 = .ok (.iaload, 1) := by decide +kernel
theorem dX12_keepsField_64 : decode cX12_keepsField 64 = .ok (.iload_n 1, 1) := by decide +kernel
theorem dX12_keepsField_65 : decode cX12_keepsField 65 = .ok (.invokevirtual 442, 3) := by decide +kernel
theorem dX12_keepsField_68 : decode cX12_keepsField 68 = .ok (.ireturn, 1) := by decide +kernel
theorem dX12_keepsField_10 : decode cX12_keepsField 10 = .ok (.aload_n 0, 1) := by decide +kernel
theorem dX12_keepsField_11 : decode cX12_keepsField 11 = .ok (.getfield 161, 3) := by decide +kernel
theorem dX12_keepsField_14 : decode cX12_keepsField 14 = .ok (.ifCond .eq 37, 3) := by decide +kernel
theorem dX12_keepsField_17 : decode cX12_keepsField 17 = .ok (.aload_n 0, 1) := by decide +kernel
theorem dX12_keepsField_18 : decode cX12_keepsField 18 = .ok (.getfield 73, 3) := by decide +kernel
theorem dX12_keepsField_21 : decode cX12_keepsField 21 = .ok (.iload_n 2, 1) := by decide +kernel
theorem dX12_keepsField_22 : decode cX12_keepsField 22 = .ok (.iaload, 1) := by decide +kernel
theorem dX12_keepsField_23 : decode cX12_keepsField 23 = .ok (.iload_n 1, 1) := by decide +kernel
theorem dX12_keepsField_24 : decode cX12_keepsField 24 = .ok (.if_icmp .ne 21, 3) := by decide +kernel
theorem dX12_keepsField_45 : decode cX12_keepsField 45 = .ok (.iinc 2 1, 3) := by decide +kernel
theorem dX12_keepsField_48 : decode cX12_keepsField 48 = .ok (.goto (-46), 3) := by decide +kernel
theorem dX12_keepsField_27 : decode cX12_keepsField 27 = .ok (.aload_n 0, 1) := by decide +kernel
theorem dX12_keepsField_28 : decode cX12_keepsField 28 = .ok (.getfield 449, 3) := by decide +kernel
theorem dX12_keepsField_31 : decode cX12_keepsField 31 = .ok (.iload_n 2, 1) := by decide +kernel
theorem dX12_keepsField_32 : decode cX12_keepsField 32 = .ok (.ishr, 1) := by decide +kernel
theorem dX12_keepsField_33 : decode cX12_keepsField 33 = .ok (.iconst 1, 1) := by decide +kernel
theorem dX12_keepsField_34 : decode cX12_keepsField 34 = .ok (.iand, 1) := by decide +kernel
theorem dX12_keepsField_35 : decode cX12_keepsField 35 = .ok (.iconst 1, 1) := by decide +kernel
theorem dX12_keepsField_36 : decode cX12_keepsField 36 = .ok (.if_icmp .ne 7, 3) := by decide +kernel
theorem dX12_keepsField_44 : decode cX12_keepsField 44 = .ok (.ireturn, 1) := by decide +kernel
theorem dX12_keepsField_43 : decode cX12_keepsField 43 = .ok (.iconst 0, 1) := by decide +kernel
theorem dX12_keepsField_39 : decode cX12_keepsField 39 = .ok (.iconst 1, 1) := by decide +kernel
theorem dX12_keepsField_40 : decode cX12_keepsField 40 = .ok (.goto 4, 3) := by decide +kernel
theorem dX12_tells_0 : decode cX12_tells 0 = .ok (.aload_n 0, 1) := by decide +kernel
theorem dX12_tells_1 : decode cX12_tells 1 = .ok (.iconst 0, 1) := by decide +kernel
theorem dX12_tells_2 : decode cX12_tells 2 = .ok (.putfield 82, 3) := by decide +kernel
theorem dX12_tells_5 : decode cX12_tells 5 = .ok (.aload_n 0, 1) := by decide +kernel
theorem dX12_tells_6 : decode cX12_tells 6 = .ok (.iload_n 1, 1) := by decide +kernel
theorem dX12_tells_7 : decode cX12_tells 7 = .ok (.invokevirtual 141, 3) := by decide +kernel
theorem dX12_tells_10 : decode cX12_tells 10 = .ok (.ifCond .ne 5, 3) := by decide +kernel
theorem dX12_tells_15 : decode cX12_tells 15 = .ok (.iload_n 1, 1) := by decide +kernel
theorem dX12_tells_16 : decode cX12_tells 16 = .ok (.invokestatic 135, 3) := by decide +kernel
theorem dX12_tells_19 : decode cX12_tells 19 = .ok (.istore_n 3, 1) := by decide +kernel
theorem dX12_tells_20 : decode cX12_tells 20 = .ok (.aload_n 0, 1) := by decide +kernel
theorem dX12_tells_21 : decode cX12_tells 21 = .ok (.iload_n 1, 1) := by decide +kernel
theorem dX12_tells_22 : decode cX12_tells 22 = .ok (.invokevirtual 144, 3) := by decide +kernel
theorem dX12_tells_25 : decode cX12_tells 25 = .ok (.istore 4, 2) := by decide +kernel
theorem dX12_tells_27 : decode cX12_tells 27 = .ok (.iload_n 2, 1) := by decide +kernel
theorem dX12_tells_28 : decode cX12_tells 28 = .ok (.tableswitch 195 0 7 #[48, 57, 66, 75, 101, 131, 158, 185], 48) := by decide +kernel
theorem dX12_tells_76 : decode cX12_tells 76 = .ok (.aload_n 0, 1) := by decide +kernel
theorem dX12_tells_77 : decode cX12_tells 77 = .ok (.getfield 8, 3) := by decide +kernel
theorem dX12_tells_80 : decode cX12_tells 80 = .ok (.iload_n 3, 1) := by decide +kernel
theorem dX12_tells_81 : decode cX12_tells 81 = .ok (.iconst 3, 1) := by decide +kernel
theorem dX12_tells_82 : decode cX12_tells 82 = .ok (.iadd, 1) := by decide +kernel
theorem dX12_tells_83 : decode cX12_tells 83 = .ok (.iaload, 1) := by decide +kernel
theorem dX12_tells_84 : decode cX12_tells 84 = .ok (.ireturn, 1) := by decide +kernel
theorem dX12_tells_85 : decode cX12_tells 85 = .ok (.aload_n 0, 1) := by decide +kernel
theorem dX12_tells_86 : decode cX12_tells 86 = .ok (.getfield 8, 3) := by decide +kernel
theorem dX12_tells_89 : decode cX12_tells 89 = .ok (.iload_n 3, 1) := by decide +kernel
theorem dX12_tells_90 : decode cX12_tells 90 = .ok (.iconst 2, 1) := by decide +kernel
theorem dX12_tells_91 : decode cX12_tells 91 = .ok (.iadd, 1) := by decide +kernel
theorem dX12_tells_92 : decode cX12_tells 92 = .ok (.iaload, 1) := by decide +kernel
theorem dX12_tells_93 : decode cX12_tells 93 = .ok (.ireturn, 1) := by decide +kernel
theorem dX12_tells_94 : decode cX12_tells 94 = .ok (.aload_n 0, 1) := by decide +kernel
theorem dX12_tells_95 : decode cX12_tells 95 = .ok (.getfield 8, 3) := by decide +kernel
theorem dX12_tells_98 : decode cX12_tells 98 = .ok (.iload_n 3, 1) := by decide +kernel
theorem dX12_tells_99 : decode cX12_tells 99 = .ok (.iconst 4, 1) := by decide +kernel
theorem dX12_tells_100 : decode cX12_tells 100 = .ok (.iadd, 1) := by decide +kernel
theorem dX12_tells_101 : decode cX12_tells 101 = .ok (.iaload, 1) := by decide +kernel
theorem dX12_tells_102 : decode cX12_tells 102 = .ok (.ireturn, 1) := by decide +kernel
theorem dX12_tells_103 : decode cX12_tells 103 = .ok (.aload_n 0, 1) := by decide +kernel
theorem dX12_tells_104 : decode cX12_tells 104 = .ok (.invokevirtual 147, 3) := by decide +kernel
theorem dX12_tells_107 : decode cX12_tells 107 = .ok (.aload_n 0, 1) := by decide +kernel
theorem dX12_tells_108 : decode cX12_tells 108 = .ok (.getfield 8, 3) := by decide +kernel
theorem dX12_tells_111 : decode cX12_tells 111 = .ok (.iload_n 3, 1) := by decide +kernel
theorem dX12_tells_112 : decode cX12_tells 112 = .ok (.iconst 3, 1) := by decide +kernel
theorem dX12_tells_113 : decode cX12_tells 113 = .ok (.iadd, 1) := by decide +kernel
theorem dX12_tells_114 : decode cX12_tells 114 = .ok (.iaload, 1) := by decide +kernel
theorem dX12_tells_115 : decode cX12_tells 115 = .ok (.iconst (-1), 1) := by decide +kernel
theorem dX12_tells_116 : decode cX12_tells 116 = .ok (.if_icmp .ne 7, 3) := by decide +kernel
theorem dX12_tells_128 : decode cX12_tells 128 = .ok (.ireturn, 1) := by decide +kernel
theorem dX12_tells_123 : decode cX12_tells 123 = .ok (.aload_n 0, 1) := by decide +kernel
theorem dX12_tells_124 : decode cX12_tells 124 = .ok (.iload_n 1, 1) := by decide +kernel
theorem dX12_tells_125 : decode cX12_tells 125 = .ok (.invokevirtual 150, 3) := by decide +kernel
theorem dX12_tells_119 : decode cX12_tells 119 = .ok (.iconst (-1), 1) := by decide +kernel
theorem dX12_tells_120 : decode cX12_tells 120 = .ok (.goto 8, 3) := by decide +kernel
theorem dX12_tells_129 : decode cX12_tells 129 = .ok (.aload_n 0, 1) := by decide +kernel
theorem dX12_tells_130 : decode cX12_tells 130 = .ok (.invokevirtual 147, 3) := by decide +kernel
theorem dX12_tells_133 : decode cX12_tells 133 = .ok (.aload_n 0, 1) := by decide +kernel
theorem dX12_tells_134 : decode cX12_tells 134 = .ok (.getfield 8, 3) := by decide +kernel
theorem dX12_tells_137 : decode cX12_tells 137 = .ok (.iload_n 3, 1) := by decide +kernel
theorem dX12_tells_138 : decode cX12_tells 138 = .ok (.iconst 3, 1) := by decide +kernel
theorem dX12_tells_139 : decode cX12_tells 139 = .ok (.iadd, 1) := by decide +kernel
theorem dX12_tells_140 : decode cX12_tells 140 = .ok (.iaload, 1) := by decide +kernel
theorem dX12_tells_141 : decode cX12_tells 141 = .ok (.iconst (-1), 1) := by decide +kernel
theorem dX12_tells_142 : decode cX12_tells 142 = .ok (.if_icmp .eq 15, 3) := by decide +kernel
theorem dX12_tells_158 : decode cX12_tells 158 = .ok (.ireturn, 1) := by decide +kernel
theorem dX12_tells_157 : decode cX12_tells 157 = .ok (.iconst 0, 1) := by decide +kernel
theorem dX12_tells_145 : decode cX12_tells 145 = .ok (.aload_n 0, 1) := by decide +kernel
theorem dX12_tells_146 : decode cX12_tells 146 = .ok (.iload_n 1, 1) := by decide +kernel
theorem dX12_tells_147 : decode cX12_tells 147 = .ok (.invokevirtual 153, 3) := by decide +kernel
theorem dX12_tells_150 : decode cX12_tells 150 = .ok (.ifCond .eq 7, 3) := by decide +kernel
theorem dX12_tells_153 : decode cX12_tells 153 = .ok (.iconst 1, 1) := by decide +kernel
theorem dX12_tells_154 : decode cX12_tells 154 = .ok (.goto 4, 3) := by decide +kernel
theorem dX12_tells_159 : decode cX12_tells 159 = .ok (.iload 4, 2) := by decide +kernel
theorem dX12_tells_161 : decode cX12_tells 161 = .ok (.iconst (-1), 1) := by decide +kernel
theorem dX12_tells_162 : decode cX12_tells 162 = .ok (.if_icmp .ne 7, 3) := by decide +kernel
theorem dX12_tells_185 : decode cX12_tells 185 = .ok (.ireturn, 1) := by decide +kernel
theorem dX12_tells_169 : decode cX12_tells 169 = .ok (.aload_n 0, 1) := by decide +kernel
theorem dX12_tells_170 : decode cX12_tells 170 = .ok (.getfield 8, 3) := by decide +kernel
theorem dX12_tells_173 : decode cX12_tells 173 = .ok (.sipush 684, 3) := by decide +kernel
theorem dX12_tells_176 : decode cX12_tells 176 = .ok (.bipush 6, 2) := by decide +kernel
theorem dX12_tells_178 : decode cX12_tells 178 = .ok (.iload 4, 2) := by decide +kernel
theorem dX12_tells_180 : decode cX12_tells 180 = .ok (.imul, 1) := by decide +kernel
theorem dX12_tells_181 : decode cX12_tells 181 = .ok (.iadd, 1) := by decide +kernel
theorem dX12_tells_182 : decode cX12_tells 182 = .ok (.iconst 2, 1) := by decide +kernel
theorem dX12_tells_183 : decode cX12_tells 183 = .ok (.iadd, 1) := by decide +kernel
theorem dX12_tells_184 : decode cX12_tells 184 = .ok (.iaload, 1) := by decide +kernel
theorem dX12_tells_165 : decode cX12_tells 165 = .ok (.iconst (-1), 1) := by decide +kernel
theorem dX12_tells_166 : decode cX12_tells 166 = .ok (.goto 19, 3) := by decide +kernel
theorem dX12_tells_186 : decode cX12_tells 186 = .ok (.iload 4, 2) := by decide +kernel
theorem dX12_tells_188 : decode cX12_tells 188 = .ok (.iconst (-1), 1) := by decide +kernel
theorem dX12_tells_189 : decode cX12_tells 189 = .ok (.if_icmp .ne 7, 3) := by decide +kernel
theorem dX12_tells_212 : decode cX12_tells 212 = .ok (.ireturn, 1) := by decide +kernel
theorem dX12_tells_196 : decode cX12_tells 196 = .ok (.aload_n 0, 1) := by decide +kernel
theorem dX12_tells_197 : decode cX12_tells 197 = .ok (.getfield 8, 3) := by decide +kernel
theorem dX12_tells_200 : decode cX12_tells 200 = .ok (.sipush 684, 3) := by decide +kernel
theorem dX12_tells_203 : decode cX12_tells 203 = .ok (.bipush 6, 2) := by decide +kernel
theorem dX12_tells_205 : decode cX12_tells 205 = .ok (.iload 4, 2) := by decide +kernel
theorem dX12_tells_207 : decode cX12_tells 207 = .ok (.imul, 1) := by decide +kernel
theorem dX12_tells_208 : decode cX12_tells 208 = .ok (.iadd, 1) := by decide +kernel
theorem dX12_tells_209 : decode cX12_tells 209 = .ok (.iconst 3, 1) := by decide +kernel
theorem dX12_tells_210 : decode cX12_tells 210 = .ok (.iadd, 1) := by decide +kernel
theorem dX12_tells_211 : decode cX12_tells 211 = .ok (.iaload, 1) := by decide +kernel
theorem dX12_tells_192 : decode cX12_tells 192 = .ok (.iconst (-1), 1) := by decide +kernel
theorem dX12_tells_193 : decode cX12_tells 193 = .ok (.goto 19, 3) := by decide +kernel
theorem dX12_tells_213 : decode cX12_tells 213 = .ok (.aload_n 0, 1) := by decide +kernel
theorem dX12_tells_214 : decode cX12_tells 214 = .ok (.getfield 8, 3) := by decide +kernel
theorem dX12_tells_217 : decode cX12_tells 217 = .ok (.iload_n 3, 1) := by decide +kernel
theorem dX12_tells_218 : decode cX12_tells 218 = .ok (.bipush 6, 2) := by decide +kernel
theorem dX12_tells_220 : decode cX12_tells 220 = .ok (.iadd, 1) := by decide +kernel
theorem dX12_tells_221 : decode cX12_tells 221 = .ok (.iaload, 1) := by decide +kernel
theorem dX12_tells_222 : decode cX12_tells 222 = .ok (.ireturn, 1) := by decide +kernel
theorem dX12_tells_223 : decode cX12_tells 223 = .ok (.iconst (-1), 1) := by decide +kernel
theorem dX12_tells_224 : decode cX12_tells 224 = .ok (.ireturn, 1) := by decide +kernel
theorem dX12_tells_13 : decode cX12_tells 13 = .ok (.iconst (-1), 1) := by decide +kernel
theorem dX12_tells_14 : decode cX12_tells 14 = .ok (.ireturn, 1) := by decide +kernel
theorem dX12_take_0 : decode cX12_take 0 = .ok (.aload_n 0, 1) := by decide +kernel
theorem dX12_take_1 : decode cX12_take 1 = .ok (.iconst 0, 1) := by decide +kernel
theorem dX12_take_2 : decode cX12_take 2 = .ok (.putfield 82, 3) := by decide +kernel
theorem dX12_take_5 : decode cX12_take 5 = .ok (.iload_n 3, 1) := by decide +kernel
theorem dX12_take_6 : decode cX12_take 6 = .ok (.i2l, 1) := by decide +kernel
theorem dX12_take_7 : decode cX12_take 7 = .ok (.lconst 0, 1) := by decide +kernel
theorem dX12_take_8 : decode cX12_take 8 = .ok (.lconst 1, 1) := by decide +kernel
theorem dX12_take_9 : decode cX12_take 9 = .ok (.invokestatic 90, 3) := by decide +kernel
theorem dX12_take_12 : decode cX12_take 12 = .ok (.ifCond .ne 9, 3) := by decide +kernel
theorem dX12_take_21 : decode cX12_take 21 = .ok (.aload_n 0, 1) := by decide +kernel
theorem dX12_take_22 : decode cX12_take 22 = .ok (.iload_n 1, 1) := by decide +kernel
theorem dX12_take_23 : decode cX12_take 23 = .ok (.invokevirtual 111, 3) := by decide +kernel
theorem dX12_take_26 : decode cX12_take 26 = .ok (.ifCond .eq 11, 3) := by decide +kernel
theorem dX12_take_37 : decode cX12_take 37 = .ok (.aload_n 0, 1) := by decide +kernel
theorem dX12_take_38 : decode cX12_take 38 = .ok (.bipush (-2), 2) := by decide +kernel
theorem dX12_take_40 : decode cX12_take 40 = .ok (.invokevirtual 94, 3) := by decide +kernel
theorem dX12_take_43 : decode cX12_take 43 = .ok (.ireturn, 1) := by decide +kernel
theorem dX12_take_29 : decode cX12_take 29 = .ok (.aload_n 0, 1) := by decide +kernel
theorem dX12_take_30 : decode cX12_take 30 = .ok (.iload_n 2, 1) := by decide +kernel
theorem dX12_take_31 : decode cX12_take 31 = .ok (.invokevirtual 141, 3) := by decide +kernel
theorem dX12_take_34 : decode cX12_take 34 = .ok (.ifCond .ne 10, 3) := by decide +kernel
theorem dX12_take_44 : decode cX12_take 44 = .ok (.iload_n 2, 1) := by decide +kernel
theorem dX12_take_45 : decode cX12_take 45 = .ok (.invokestatic 135, 3) := by decide +kernel
theorem dX12_take_48 : decode cX12_take 48 = .ok (.istore 4, 2) := by decide +kernel
theorem dX12_take_50 : decode cX12_take 50 = .ok (.aload_n 0, 1) := by decide +kernel
theorem dX12_take_51 : decode cX12_take 51 = .ok (.invokevirtual 147, 3) := by decide +kernel
theorem dX12_take_54 : decode cX12_take 54 = .ok (.aload_n 0, 1) := by decide +kernel
theorem dX12_take_55 : decode cX12_take 55 = .ok (.getfield 8, 3) := by decide +kernel
theorem dX12_take_58 : decode cX12_take 58 = .ok (.iload_n 1, 1) := by decide +kernel
theorem dX12_take_59 : decode cX12_take 59 = .ok (.invokestatic 104, 3) := by decide +kernel
theorem dX12_take_62 : decode cX12_take 62 = .ok (.iconst 5, 1) := by decide +kernel
theorem dX12_take_63 : decode cX12_take 63 = .ok (.iadd, 1) := by decide +kernel
theorem dX12_take_64 : decode cX12_take 64 = .ok (.iaload, 1) := by decide +kernel
theorem dX12_take_65 : decode cX12_take 65 = .ok (.ifCond .ne 36, 3) := by decide +kernel
theorem dX12_take_102 : decode cX12_take 102 = .ok (.istore 5, 2) := by decide +kernel
theorem dX12_take_104 : decode cX12_take 104 = .ok (.iload 5, 2) := by decide +kernel
theorem dX12_take_106 : decode cX12_take 106 = .ok (.ifCond .eq 18, 3) := by decide +kernel
theorem dX12_take_124 : decode cX12_take 124 = .ok (.aload_n 0, 1) := by decide +kernel
theorem dX12_take_125 : decode cX12_take 125 = .ok (.bipush (-3), 2) := by decide +kernel
theorem dX12_take_127 : decode cX12_take 127 = .ok (.invokevirtual 94, 3) := by decide +kernel
theorem dX12_take_130 : decode cX12_take 130 = .ok (.ireturn, 1) := by decide +kernel
theorem dX12_take_109 : decode cX12_take 109 = .ok (.iload_n 3, 1) := by decide +kernel
theorem dX12_take_110 : decode cX12_take 110 = .ok (.ifCond .ne 21, 3) := by decide +kernel
theorem dX12_take_131 : decode cX12_take 131 = .ok (.aload_n 0, 1) := by decide +kernel
theorem dX12_take_132 : decode cX12_take 132 = .ok (.getfield 8, 3) := by decide +kernel
theorem dX12_take_135 : decode cX12_take 135 = .ok (.iload 4, 2) := by decide +kernel
theorem dX12_take_137 : decode cX12_take 137 = .ok (.iconst 3, 1) := by decide +kernel
theorem dX12_take_138 : decode cX12_take 138 = .ok (.iadd, 1) := by decide +kernel
theorem dX12_take_139 : decode cX12_take 139 = .ok (.iload_n 1, 1) := by decide +kernel
theorem dX12_take_140 : decode cX12_take 140 = .ok (.iastore, 1) := by decide +kernel
theorem dX12_take_141 : decode cX12_take 141 = .ok (.aload_n 0, 1) := by decide +kernel
theorem dX12_take_142 : decode cX12_take 142 = .ok (.getfield 8, 3) := by decide +kernel
theorem dX12_take_145 : decode cX12_take 145 = .ok (.iload 4, 2) := by decide +kernel
theorem dX12_take_147 : decode cX12_take 147 = .ok (.iconst 5, 1) := by decide +kernel
theorem dX12_take_148 : decode cX12_take 148 = .ok (.iadd, 1) := by decide +kernel
theorem dX12_take_149 : decode cX12_take 149 = .ok (.iconst 1, 1) := by decide +kernel
theorem dX12_take_150 : decode cX12_take 150 = .ok (.iload_n 3, 1) := by decide +kernel
theorem dX12_take_151 : decode cX12_take 151 = .ok (.isub, 1) := by decide +kernel
theorem dX12_take_152 : decode cX12_take 152 = .ok (.iastore, 1) := by decide +kernel
theorem dX12_take_153 : decode cX12_take 153 = .ok (.aload_n 0, 1) := by decide +kernel
theorem dX12_take_154 : decode cX12_take 154 = .ok (.getfield 8, 3) := by decide +kernel
theorem dX12_take_157 : decode cX12_take 157 = .ok (.iload_n 1, 1) := by decide +kernel
theorem dX12_take_158 : decode cX12_take 158 = .ok (.invokestatic 104, 3) := by decide +kernel
theorem dX12_take_161 : decode cX12_take 161 = .ok (.bipush 7, 2) := by decide +kernel
theorem dX12_take_163 : decode cX12_take 163 = .ok (.iadd, 1) := by decide +kernel
theorem dX12_take_164 : decode cX12_take 164 = .ok (.iconst (-1), 1) := by decide +kernel
theorem dX12_take_165 : decode cX12_take 165 = .ok (.iastore, 1) := by decide +kernel
theorem dX12_take_166 : decode cX12_take 166 = .ok (.aload_n 0, 1) := by decide +kernel
theorem dX12_take_167 : decode cX12_take 167 = .ok (.iconst 0, 1) := by decide +kernel
theorem dX12_take_168 : decode cX12_take 168 = .ok (.invokevirtual 94, 3) := by decide +kernel
theorem dX12_take_171 : decode cX12_take 171 = .ok (.ireturn, 1) := by decide +kernel
theorem dX12_take_113 : decode cX12_take 113 = .ok (.aload_n 0, 1) := by decide +kernel
theorem dX12_take_114 : decode cX12_take 114 = .ok (.bipush 6, 2) := by decide +kernel
theorem dX12_take_116 : decode cX12_take 116 = .ok (.iload_n 1, 1) := by decide +kernel
theorem dX12_take_117 : decode cX12_take 117 = .ok (.iload_n 2, 1) := by decide +kernel
theorem dX12_take_118 : decode cX12_take 118 = .ok (.invokevirtual 442, 3) := by decide +kernel
theorem dX12_take_121 : decode cX12_take 121 = .ok (.ifCond .ne 10, 3) := by decide +kernel
theorem dX12_take_101 : decode cX12_take 101 = .ok (.iconst 0, 1) := by decide +kernel
theorem dX12_take_68 : decode cX12_take 68 = .ok (.aload_n 0, 1) := by decide +kernel
theorem dX12_take_69 : decode cX12_take 69 = .ok (.getfield 8, 3) := by decide +kernel
theorem dX12_take_72 : decode cX12_take 72 = .ok (.iload 4, 2) := by decide +kernel
theorem dX12_take_74 : decode cX12_take 74 = .ok (.iconst 3, 1) := by decide +kernel
theorem dX12_take_75 : decode cX12_take 75 = .ok (.iadd, 1) := by decide +kernel
theorem dX12_take_76 : decode cX12_take 76 = .ok (.iaload, 1) := by decide +kernel
theorem dX12_take_77 : decode cX12_take 77 = .ok (.iconst (-1), 1) := by decide +kernel
theorem dX12_take_78 : decode cX12_take 78 = .ok (.if_icmp .ne 23, 3) := by decide +kernel
theorem dX12_take_81 : decode cX12_take 81 = .ok (.aload_n 0, 1) := by decide +kernel
theorem dX12_take_82 : decode cX12_take 82 = .ok (.getfield 8, 3) := by decide +kernel
theorem dX12_take_85 : decode cX12_take 85 = .ok (.iload 4, 2) := by decide +kernel
theorem dX12_take_87 : decode cX12_take 87 = .ok (.bipush 6, 2) := by decide +kernel
theorem dX12_take_89 : decode cX12_take 89 = .ok (.iadd, 1) := by decide +kernel
theorem dX12_take_90 : decode cX12_take 90 = .ok (.iaload, 1) := by decide +kernel
theorem dX12_take_91 : decode cX12_take 91 = .ok (.iconst 1, 1) := by decide +kernel
theorem dX12_take_92 : decode cX12_take 92 = .ok (.iload_n 3, 1) := by decide +kernel
theorem dX12_take_93 : decode cX12_take 93 = .ok (.isub, 1) := by decide +kernel
theorem dX12_take_94 : decode cX12_take 94 = .ok (.if_icmp .ne 7, 3) := by decide +kernel
theorem dX12_take_97 : decode cX12_take 97 = .ok (.iconst 1, 1) := by decide +kernel
theorem dX12_take_98 : decode cX12_take 98 = .ok (.goto 4, 3) := by decide +kernel
theorem dX12_take_15 : decode cX12_take 15 = .ok (.aload_n 0, 1) := by decide +kernel
theorem dX12_take_16 : decode cX12_take 16 = .ok (.iconst (-1), 1) := by decide +kernel
theorem dX12_take_17 : decode cX12_take 17 = .ok (.invokevirtual 94, 3) := by decide +kernel
theorem dX12_take_20 : decode cX12_take 20 = .ok (.ireturn, 1) := by decide +kernel
theorem dX12_addWrit_0 : decode cX12_addWrit 0 = .ok (.sipush 684, 3) := by decide +kernel
theorem dX12_addWrit_3 : decode cX12_addWrit 3 = .ok (.bipush 6, 2) := by decide +kernel
theorem dX12_addWrit_5 : decode cX12_addWrit 5 = .ok (.aload_n 0, 1) := by decide +kernel
theorem dX12_addWrit_6 : decode cX12_addWrit 6 = .ok (.getfield 8, 3) := by decide +kernel
theorem dX12_addWrit_9 : decode cX12_addWrit 9 = .ok (.iconst 4, 1) := by decide +kernel
theorem dX12_addWrit_10 : decode cX12_addWrit 10 = .ok (.iaload, 1) := by decide +kernel
theorem dX12_addWrit_11 : decode cX12_addWrit 11 = .ok (.imul, 1) := by decide +kernel
theorem dX12_addWrit_12 : decode cX12_addWrit 12 = .ok (.iadd, 1) := by decide +kernel
theorem dX12_addWrit_13 : decode cX12_addWrit 13 = .ok (.istore_n 2, 1) := by decide +kernel
theorem dX12_addWrit_14 : decode cX12_addWrit 14 = .ok (.aload_n 0, 1) := by decide +kernel
theorem dX12_addWrit_15 : decode cX12_addWrit 15 = .ok (.iload_n 2, 1) := by decide +kernel
theorem dX12_addWrit_16 : decode cX12_addWrit 16 = .ok (.iload_n 1, 1) := by decide +kernel
theorem dX12_addWrit_17 : decode cX12_addWrit 17 = .ok (.aload_n 0, 1) := by decide +kernel
theorem dX12_addWrit_18 : decode cX12_addWrit 18 = .ok (.getfield 8, 3) := by decide +kernel
theorem dX12_addWrit_21 : decode cX12_addWrit 21 = .ok (.iload_n 1, 1) := by decide +kernel
theorem dX12_addWrit_22 : decode cX12_addWrit 22 = .ok (.invokestatic 135, 3) := by decide +kernel
theorem dX12_addWrit_25 : decode cX12_addWrit 25 = .ok (.iconst 3, 1) := by decide +kernel
theorem dX12_addWrit_26 : decode cX12_addWrit 26 = .ok (.iadd, 1) := by decide +kernel
theorem dX12_addWrit_27 : decode cX12_addWrit 27 = .ok (.iaload, 1) := by decide +kernel
theorem dX12_addWrit_28 : decode cX12_addWrit 28 = .ok (.iconst 0, 1) := by decide +kernel
theorem dX12_addWrit_29 : decode cX12_addWrit 29 = .ok (.aload_n 0, 1) := by decide +kernel
theorem dX12_addWrit_30 : decode cX12_addWrit 30 = .ok (.iconst 0, 1) := by decide +kernel
theorem dX12_addWrit_31 : decode cX12_addWrit 31 = .ok (.invokevirtual 455, 3) := by decide +kernel
theorem dX12_addWrit_34 : decode cX12_addWrit 34 = .ok (.invokevirtual 107, 3) := by decide +kernel
theorem dX12_addWrit_37 : decode cX12_addWrit 37 = .ok (.aload_n 0, 1) := by decide +kernel
theorem dX12_addWrit_38 : decode cX12_addWrit 38 = .ok (.getfield 8, 3) := by decide +kernel
theorem dX12_addWrit_41 : decode cX12_addWrit 41 = .ok (.iload_n 2, 1) := by decide +kernel
theorem dX12_addWrit_42 : decode cX12_addWrit 42 = .ok (.iconst 4, 1) := by decide +kernel
theorem dX12_addWrit_43 : decode cX12_addWrit 43 = .ok (.iadd, 1) := by decide +kernel
theorem dX12_addWrit_44 : decode cX12_addWrit 44 = .ok (.aload_n 0, 1) := by decide +kernel
theorem dX12_addWrit_45 : decode cX12_addWrit 45 = .ok (.getfield 8, 3) := by decide +kernel
theorem dX12_addWrit_48 : decode cX12_addWrit 48 = .ok (.bipush 8, 2) := by decide +kernel
theorem dX12_addWrit_50 : decode cX12_addWrit 50 = .ok (.iaload, 1) := by decide +kernel
theorem dX12_addWrit_51 : decode cX12_addWrit 51 = .ok (.iastore, 1) := by decide +kernel
theorem dX12_addWrit_52 : decode cX12_addWrit 52 = .ok (.aload_n 0, 1) := by decide +kernel
theorem dX12_addWrit_53 : decode cX12_addWrit 53 = .ok (.getfield 8, 3) := by decide +kernel
theorem dX12_addWrit_56 : decode cX12_addWrit 56 = .ok (.iload_n 2, 1) := by decide +kernel
theorem dX12_addWrit_57 : decode cX12_addWrit 57 = .ok (.iconst 5, 1) := by decide +kernel
theorem dX12_addWrit_58 : decode cX12_addWrit 58 = .ok (.iadd, 1) := by decide +kernel
theorem dX12_addWrit_59 : decode cX12_addWrit 59 = .ok (.iconst 0, 1) := by decide +kernel
theorem dX12_addWrit_60 : decode cX12_addWrit 60 = .ok (.iastore, 1) := by decide +kernel
theorem dX12_addWrit_61 : decode cX12_addWrit 61 = .ok (.aload_n 0, 1) := by decide +kernel
theorem dX12_addWrit_62 : decode cX12_addWrit 62 = .ok (.getfield 8, 3) := by decide +kernel
theorem dX12_addWrit_65 : decode cX12_addWrit 65 = .ok (.iconst 4, 1) := by decide +kernel
theorem dX12_addWrit_66 : decode cX12_addWrit 66 = .ok (.dup2, 1) := by decide +kernel
theorem dX12_addWrit_67 : decode cX12_addWrit 67 = .ok (.iaload, 1) := by decide +kernel
theorem dX12_addWrit_68 : decode cX12_addWrit 68 = .ok (.iconst 1, 1) := by decide +kernel
theorem dX12_addWrit_69 : decode cX12_addWrit 69 = .ok (.iadd, 1) := by decide +kernel
theorem dX12_addWrit_70 : decode cX12_addWrit 70 = .ok (.iastore, 1) := by decide +kernel
theorem dX12_addWrit_71 : decode cX12_addWrit 71 = .ok (.return_, 1) := by decide +kernel
theorem dX12_writ_0 : decode cX12_writ 0 = .ok (.aload_n 0, 1) := by decide +kernel
theorem dX12_writ_1 : decode cX12_writ 1 = .ok (.iconst 0, 1) := by decide +kernel
theorem dX12_writ_2 : decode cX12_writ 2 = .ok (.putfield 82, 3) := by decide +kernel
theorem dX12_writ_5 : decode cX12_writ 5 = .ok (.aload_n 0, 1) := by decide +kernel
theorem dX12_writ_6 : decode cX12_writ 6 = .ok (.iload_n 1, 1) := by decide +kernel
theorem dX12_writ_7 : decode cX12_writ 7 = .ok (.invokevirtual 141, 3) := by decide +kernel
theorem dX12_writ_10 : decode cX12_writ 10 = .ok (.ifCond .ne 10, 3) := by decide +kernel
theorem dX12_writ_20 : decode cX12_writ 20 = .ok (.aload_n 0, 1) := by decide +kernel
theorem dX12_writ_21 : decode cX12_writ 21 = .ok (.iload_n 1, 1) := by decide +kernel
theorem dX12_writ_22 : decode cX12_writ 22 = .ok (.invokevirtual 470, 3) := by decide +kernel
theorem dX12_writ_25 : decode cX12_writ 25 = .ok (.ifCond .ne 10, 3) := by decide +kernel
theorem dX12_writ_35 : decode cX12_writ 35 = .ok (.aload_n 0, 1) := by decide +kernel
theorem dX12_writ_36 : decode cX12_writ 36 = .ok (.getfield 8, 3) := by decide +kernel
theorem dX12_writ_39 : decode cX12_writ 39 = .ok (.iconst 4, 1) := by decide +kernel
theorem dX12_writ_40 : decode cX12_writ 40 = .ok (.iaload, 1) := by decide +kernel
theorem dX12_writ_41 : decode cX12_writ 41 = .ok (.bipush 60, 2) := by decide +kernel
theorem dX12_writ_43 : decode cX12_writ 43 = .ok (.if_icmp .ne 10, 3) := by decide +kernel
theorem dX12_writ_53 : decode cX12_writ 53 = .ok (.aload_n 0, 1) := by decide +kernel
theorem dX12_writ_54 : decode cX12_writ 54 = .ok (.invokevirtual 147, 3) := by decide +kernel
theorem dX12_writ_57 : decode cX12_writ 57 = .ok (.aload_n 0, 1) := by decide +kernel
theorem dX12_writ_58 : decode cX12_writ 58 = .ok (.iload_n 1, 1) := by decide +kernel
theorem dX12_writ_59 : decode cX12_writ 59 = .ok (.invokevirtual 473, 3) := by decide +kernel
theorem dX12_writ_62 : decode cX12_writ 62 = .ok (.aload_n 0, 1) := by decide +kernel
theorem dX12_writ_63 : decode cX12_writ 63 = .ok (.aload_n 0, 1) := by decide +kernel
theorem dX12_writ_64 : decode cX12_writ 64 = .ok (.getfield 8, 3) := by decide +kernel
theorem dX12_writ_67 : decode cX12_writ 67 = .ok (.iconst 4, 1) := by decide +kernel
theorem dX12_writ_68 : decode cX12_writ 68 = .ok (.iaload, 1) := by decide +kernel
theorem dX12_writ_69 : decode cX12_writ 69 = .ok (.invokevirtual 94, 3) := by decide +kernel
theorem dX12_writ_72 : decode cX12_writ 72 = .ok (.ireturn, 1) := by decide +kernel
theorem dX12_writ_46 : decode cX12_writ 46 = .ok (.aload_n 0, 1) := by decide +kernel
theorem dX12_writ_47 : decode cX12_writ 47 = .ok (.bipush (-5), 2) := by decide +kernel
theorem dX12_writ_49 : decode cX12_writ 49 = .ok (.invokevirtual 94, 3) := by decide +kernel
theorem dX12_writ_52 : decode cX12_writ 52 = .ok (.ireturn, 1) := by decide +kernel
theorem dX12_writ_28 : decode cX12_writ 28 = .ok (.aload_n 0, 1) := by decide +kernel
theorem dX12_writ_29 : decode cX12_writ 29 = .ok (.bipush (-3), 2) := by decide +kernel
theorem dX12_writ_31 : decode cX12_writ 31 = .ok (.invokevirtual 94, 3) := by decide +kernel
theorem dX12_writ_34 : decode cX12_writ 34 = .ok (.ireturn, 1) := by decide +kernel
theorem dX12_writ_13 : decode cX12_writ 13 = .ok (.aload_n 0, 1) := by decide +kernel
theorem dX12_writ_14 : decode cX12_writ 14 = .ok (.bipush (-2), 2) := by decide +kernel
theorem dX12_writ_16 : decode cX12_writ 16 = .ok (.invokevirtual 94, 3) := by decide +kernel
theorem dX12_writ_19 : decode cX12_writ 19 = .ok (.ireturn, 1) := by decide +kernel
theorem dX12_goWrit_0 : decode cX12_goWrit 0 = .ok (.aload_n 0, 1) := by decide +kernel
theorem dX12_goWrit_1 : decode cX12_goWrit 1 = .ok (.getfield 8, 3) := by decide +kernel
theorem dX12_goWrit_4 : decode cX12_goWrit 4 = .ok (.iload_n 1, 1) := by decide +kernel
theorem dX12_goWrit_5 : decode cX12_goWrit 5 = .ok (.iaload, 1) := by decide +kernel
theorem dX12_goWrit_6 : decode cX12_goWrit 6 = .ok (.invokestatic 135, 3) := by decide +kernel
theorem dX12_goWrit_9 : decode cX12_goWrit 9 = .ok (.istore_n 2, 1) := by decide +kernel
theorem dX12_goWrit_10 : decode cX12_goWrit 10 = .ok (.aload_n 0, 1) := by decide +kernel
theorem dX12_goWrit_11 : decode cX12_goWrit 11 = .ok (.getfield 8, 3) := by decide +kernel
theorem dX12_goWrit_14 : decode cX12_goWrit 14 = .ok (.iload_n 2, 1) := by decide +kernel
theorem dX12_goWrit_15 : decode cX12_goWrit 15 = .ok (.iconst 4, 1) := by decide +kernel
theorem dX12_goWrit_16 : decode cX12_goWrit 16 = .ok (.iadd, 1) := by decide +kernel
theorem dX12_goWrit_17 : decode cX12_goWrit 17 = .ok (.iaload, 1) := by decide +kernel
theorem dX12_goWrit_18 : decode cX12_goWrit 18 = .ok (.ifCond .eq 22, 3) := by decide +kernel
theorem dX12_goWrit_40 : decode cX12_goWrit 40 = .ok (.aload_n 0, 1) := by decide +kernel
theorem dX12_goWrit_41 : decode cX12_goWrit 41 = .ok (.getfield 8, 3) := by decide +kernel
theorem dX12_goWrit_44 : decode cX12_goWrit 44 = .ok (.iload_n 1, 1) := by decide +kernel
theorem dX12_goWrit_45 : decode cX12_goWrit 45 = .ok (.iconst 5, 1) := by decide +kernel
theorem dX12_goWrit_46 : decode cX12_goWrit 46 = .ok (.iadd, 1) := by decide +kernel
theorem dX12_goWrit_47 : decode cX12_goWrit 47 = .ok (.iconst 1, 1) := by decide +kernel
theorem dX12_goWrit_48 : decode cX12_goWrit 48 = .ok (.iastore, 1) := by decide +kernel
theorem dX12_goWrit_49 : decode cX12_goWrit 49 = .ok (.return_, 1) := by decide +kernel
theorem dX12_goWrit_21 : decode cX12_goWrit 21 = .ok (.aload_n 0, 1) := by decide +kernel
theorem dX12_goWrit_22 : decode cX12_goWrit 22 = .ok (.getfield 8, 3) := by decide +kernel
theorem dX12_goWrit_25 : decode cX12_goWrit 25 = .ok (.iload_n 2, 1) := by decide +kernel
theorem dX12_goWrit_26 : decode cX12_goWrit 26 = .ok (.iconst 3, 1) := by decide +kernel
theorem dX12_goWrit_27 : decode cX12_goWrit 27 = .ok (.iadd, 1) := by decide +kernel
theorem dX12_goWrit_28 : decode cX12_goWrit 28 = .ok (.iaload, 1) := by decide +kernel
theorem dX12_goWrit_29 : decode cX12_goWrit 29 = .ok (.aload_n 0, 1) := by decide +kernel
theorem dX12_goWrit_30 : decode cX12_goWrit 30 = .ok (.getfield 8, 3) := by decide +kernel
theorem dX12_goWrit_33 : decode cX12_goWrit 33 = .ok (.iload_n 1, 1) := by decide +kernel
theorem dX12_goWrit_34 : decode cX12_goWrit 34 = .ok (.iconst 1, 1) := by decide +kernel
theorem dX12_goWrit_35 : decode cX12_goWrit 35 = .ok (.iadd, 1) := by decide +kernel
theorem dX12_goWrit_36 : decode cX12_goWrit 36 = .ok (.iaload, 1) := by decide +kernel
theorem dX12_goWrit_37 : decode cX12_goWrit 37 = .ok (.if_icmp .eq 13, 3) := by decide +kernel
theorem dX12_goWrit_50 : decode cX12_goWrit 50 = .ok (.aload_n 0, 1) := by decide +kernel
theorem dX12_goWrit_51 : decode cX12_goWrit 51 = .ok (.getfield 8, 3) := by decide +kernel
theorem dX12_goWrit_54 : decode cX12_goWrit 54 = .ok (.iload_n 1, 1) := by decide +kernel
theorem dX12_goWrit_55 : decode cX12_goWrit 55 = .ok (.iconst 4, 1) := by decide +kernel
theorem dX12_goWrit_56 : decode cX12_goWrit 56 = .ok (.iadd, 1) := by decide +kernel
theorem dX12_goWrit_57 : decode cX12_goWrit 57 = .ok (.iaload, 1) := by decide +kernel
theorem dX12_goWrit_58 : decode cX12_goWrit 58 = .ok (.aload_n 0, 1) := by decide +kernel
theorem dX12_goWrit_59 : decode cX12_goWrit 59 = .ok (.getfield 8, 3) := by decide +kernel
theorem dX12_goWrit_62 : decode cX12_goWrit 62 = .ok (.bipush 8, 2) := by decide +kernel
theorem dX12_goWrit_64 : decode cX12_goWrit 64 = .ok (.iaload, 1) := by decide +kernel
theorem dX12_goWrit_65 : decode cX12_goWrit 65 = .ok (.if_icmp .eq 16, 3) := by decide +kernel
theorem dX12_goWrit_81 : decode cX12_goWrit 81 = .ok (.return_, 1) := by decide +kernel
theorem dX12_goWrit_68 : decode cX12_goWrit 68 = .ok (.aload_n 0, 1) := by decide +kernel
theorem dX12_goWrit_69 : decode cX12_goWrit 69 = .ok (.aload_n 0, 1) := by decide +kernel
theorem dX12_goWrit_70 : decode cX12_goWrit 70 = .ok (.getfield 8, 3) := by decide +kernel
theorem dX12_goWrit_73 : decode cX12_goWrit 73 = .ok (.iload_n 1, 1) := by decide +kernel
theorem dX12_goWrit_74 : decode cX12_goWrit 74 = .ok (.iaload, 1) := by decide +kernel
theorem dX12_goWrit_75 : decode cX12_goWrit 75 = .ok (.invokevirtual 458, 3) := by decide +kernel
theorem dX12_goWrit_78 : decode cX12_goWrit 78 = .ok (.ifCond .eq 4, 3) := by decide +kernel
theorem dX12_goWrit_82 : decode cX12_goWrit 82 = .ok (.aload_n 0, 1) := by decide +kernel
theorem dX12_goWrit_83 : decode cX12_goWrit 83 = .ok (.getfield 8, 3) := by decide +kernel
theorem dX12_goWrit_86 : decode cX12_goWrit 86 = .ok (.iload_n 1, 1) := by decide +kernel
theorem dX12_goWrit_87 : decode cX12_goWrit 87 = .ok (.iconst 3, 1) := by decide +kernel
theorem dX12_goWrit_88 : decode cX12_goWrit 88 = .ok (.iadd, 1) := by decide +kernel
theorem dX12_goWrit_89 : decode cX12_goWrit 89 = .ok (.dup2, 1) := by decide +kernel
theorem dX12_goWrit_90 : decode cX12_goWrit 90 = .ok (.iaload, 1) := by decide +kernel
theorem dX12_goWrit_91 : decode cX12_goWrit 91 = .ok (.iconst 1, 1) := by decide +kernel
theorem dX12_goWrit_92 : decode cX12_goWrit 92 = .ok (.isub, 1) := by decide +kernel
theorem dX12_goWrit_93 : decode cX12_goWrit 93 = .ok (.iastore, 1) := by decide +kernel
theorem dX12_goWrit_94 : decode cX12_goWrit 94 = .ok (.aload_n 0, 1) := by decide +kernel
theorem dX12_goWrit_95 : decode cX12_goWrit 95 = .ok (.getfield 8, 3) := by decide +kernel
theorem dX12_goWrit_98 : decode cX12_goWrit 98 = .ok (.iload_n 1, 1) := by decide +kernel
theorem dX12_goWrit_99 : decode cX12_goWrit 99 = .ok (.iconst 3, 1) := by decide +kernel
theorem dX12_goWrit_100 : decode cX12_goWrit 100 = .ok (.iadd, 1) := by decide +kernel
theorem dX12_goWrit_101 : decode cX12_goWrit 101 = .ok (.iaload, 1) := by decide +kernel
theorem dX12_goWrit_102 : decode cX12_goWrit 102 = .ok (.ifCond .le 4, 3) := by decide +kernel
theorem dX12_goWrit_106 : decode cX12_goWrit 106 = .ok (.aload_n 0, 1) := by decide +kernel
theorem dX12_goWrit_107 : decode cX12_goWrit 107 = .ok (.getfield 8, 3) := by decide +kernel
theorem dX12_goWrit_110 : decode cX12_goWrit 110 = .ok (.iload_n 1, 1) := by decide +kernel
theorem dX12_goWrit_111 : decode cX12_goWrit 111 = .ok (.iconst 2, 1) := by decide +kernel
theorem dX12_goWrit_112 : decode cX12_goWrit 112 = .ok (.iadd, 1) := by decide +kernel
theorem dX12_goWrit_113 : decode cX12_goWrit 113 = .ok (.dup2, 1) := by decide +kernel
theorem dX12_goWrit_114 : decode cX12_goWrit 114 = .ok (.iaload, 1) := by decide +kernel
theorem dX12_goWrit_115 : decode cX12_goWrit 115 = .ok (.iconst 1, 1) := by decide +kernel
theorem dX12_goWrit_116 : decode cX12_goWrit 116 = .ok (.iadd, 1) := by decide +kernel
theorem dX12_goWrit_117 : decode cX12_goWrit 117 = .ok (.iastore, 1) := by decide +kernel
theorem dX12_goWrit_118 : decode cX12_goWrit 118 = .ok (.aload_n 0, 1) := by decide +kernel
theorem dX12_goWrit_119 : decode cX12_goWrit 119 = .ok (.getfield 8, 3) := by decide +kernel
theorem dX12_goWrit_122 : decode cX12_goWrit 122 = .ok (.iload_n 1, 1) := by decide +kernel
theorem dX12_goWrit_123 : decode cX12_goWrit 123 = .ok (.iconst 2, 1) := by decide +kernel
theorem dX12_goWrit_124 : decode cX12_goWrit 124 = .ok (.iadd, 1) := by decide +kernel
theorem dX12_goWrit_125 : decode cX12_goWrit 125 = .ok (.iaload, 1) := by decide +kernel
theorem dX12_goWrit_126 : decode cX12_goWrit 126 = .ok (.iconst 4, 1) := by decide +kernel
theorem dX12_goWrit_127 : decode cX12_goWrit 127 = .ok (.if_icmp .ge 24, 3) := by decide +kernel
theorem dX12_goWrit_151 : decode cX12_goWrit 151 = .ok (.aload_n 0, 1) := by decide +kernel
theorem dX12_goWrit_152 : decode cX12_goWrit 152 = .ok (.getfield 8, 3) := by decide +kernel
theorem dX12_goWrit_155 : decode cX12_goWrit 155 = .ok (.iload_n 1, 1) := by decide +kernel
theorem dX12_goWrit_156 : decode cX12_goWrit 156 = .ok (.iconst 5, 1) := by decide +kernel
theorem dX12_goWrit_157 : decode cX12_goWrit 157 = .ok (.iadd, 1) := by decide +kernel
theorem dX12_goWrit_158 : decode cX12_goWrit 158 = .ok (.iconst 1, 1) := by decide +kernel
theorem dX12_goWrit_159 : decode cX12_goWrit 159 = .ok (.iastore, 1) := by decide +kernel
theorem dX12_goWrit_160 : decode cX12_goWrit 160 = .ok (.aload_n 0, 1) := by decide +kernel
theorem dX12_goWrit_161 : decode cX12_goWrit 161 = .ok (.dup, 1) := by decide +kernel
theorem dX12_goWrit_162 : decode cX12_goWrit 162 = .ok (.getfield 461, 3) := by decide +kernel
theorem dX12_goWrit_165 : decode cX12_goWrit 165 = .ok (.iconst 1, 1) := by decide +kernel
theorem dX12_goWrit_166 : decode cX12_goWrit 166 = .ok (.iadd, 1) := by decide +kernel
theorem dX12_goWrit_167 : decode cX12_goWrit 167 = .ok (.putfield 461, 3) := by decide +kernel
theorem dX12_goWrit_170 : decode cX12_goWrit 170 = .ok (.aload_n 0, 1) := by decide +kernel
theorem dX12_goWrit_171 : decode cX12_goWrit 171 = .ok (.getfield 8, 3) := by decide +kernel
theorem dX12_goWrit_174 : decode cX12_goWrit 174 = .ok (.iload_n 2, 1) := by decide +kernel
theorem dX12_goWrit_175 : decode cX12_goWrit 175 = .ok (.iconst 3, 1) := by decide +kernel
theorem dX12_goWrit_176 : decode cX12_goWrit 176 = .ok (.iadd, 1) := by decide +kernel
theorem dX12_goWrit_177 : decode cX12_goWrit 177 = .ok (.iaload, 1) := by decide +kernel
theorem dX12_goWrit_178 : decode cX12_goWrit 178 = .ok (.istore_n 3, 1) := by decide +kernel
theorem dX12_goWrit_179 : decode cX12_goWrit 179 = .ok (.aload_n 0, 1) := by decide +kernel
theorem dX12_goWrit_180 : decode cX12_goWrit 180 = .ok (.getfield 8, 3) := by decide +kernel
theorem dX12_goWrit_183 : decode cX12_goWrit 183 = .ok (.iload_n 2, 1) := by decide +kernel
theorem dX12_goWrit_184 : decode cX12_goWrit 184 = .ok (.iconst 3, 1) := by decide +kernel
theorem dX12_goWrit_185 : decode cX12_goWrit 185 = .ok (.iadd, 1) := by decide +kernel
theorem dX12_goWrit_186 : decode cX12_goWrit 186 = .ok (.iconst (-1), 1) := by decide +kernel
theorem dX12_goWrit_187 : decode cX12_goWrit 187 = .ok (.iastore, 1) := by decide +kernel
theorem dX12_goWrit_188 : decode cX12_goWrit 188 = .ok (.aload_n 0, 1) := by decide +kernel
theorem dX12_goWrit_189 : decode cX12_goWrit 189 = .ok (.getfield 8, 3) := by decide +kernel
theorem dX12_goWrit_192 : decode cX12_goWrit 192 = .ok (.iload_n 2, 1) := by decide +kernel
theorem dX12_goWrit_193 : decode cX12_goWrit 193 = .ok (.iconst 5, 1) := by decide +kernel
theorem dX12_goWrit_194 : decode cX12_goWrit 194 = .ok (.iadd, 1) := by decide +kernel
theorem dX12_goWrit_195 : decode cX12_goWrit 195 = .ok (.iconst 0, 1) := by decide +kernel
theorem dX12_goWrit_196 : decode cX12_goWrit 196 = .ok (.iastore, 1) := by decide +kernel
theorem dX12_goWrit_197 : decode cX12_goWrit 197 = .ok (.aload_n 0, 1) := by decide +kernel
theorem dX12_goWrit_198 : decode cX12_goWrit 198 = .ok (.getfield 8, 3) := by decide +kernel
theorem dX12_goWrit_201 : decode cX12_goWrit 201 = .ok (.iload_n 2, 1) := by decide +kernel
theorem dX12_goWrit_202 : decode cX12_goWrit 202 = .ok (.bipush 6, 2) := by decide +kernel
theorem dX12_goWrit_204 : decode cX12_goWrit 204 = .ok (.iadd, 1) := by decide +kernel
theorem dX12_goWrit_205 : decode cX12_goWrit 205 = .ok (.iconst 1, 1) := by decide +kernel
theorem dX12_goWrit_206 : decode cX12_goWrit 206 = .ok (.iastore, 1) := by decide +kernel
theorem dX12_goWrit_207 : decode cX12_goWrit 207 = .ok (.aload_n 0, 1) := by decide +kernel
theorem dX12_goWrit_208 : decode cX12_goWrit 208 = .ok (.iload_n 3, 1) := by decide +kernel
theorem dX12_goWrit_209 : decode cX12_goWrit 209 = .ok (.iconst 0, 1) := by decide +kernel
theorem dX12_goWrit_210 : decode cX12_goWrit 210 = .ok (.invokevirtual 402, 3) := by decide +kernel
theorem dX12_goWrit_213 : decode cX12_goWrit 213 = .ok (.ifCond .ne 48, 3) := by decide +kernel
theorem dX12_goWrit_261 : decode cX12_goWrit 261 = .ok (.return_, 1) := by decide +kernel
theorem dX12_goWrit_216 : decode cX12_goWrit 216 = .ok (.aload_n 0, 1) := by decide +kernel
theorem dX12_goWrit_217 : decode cX12_goWrit 217 = .ok (.getfield 8, 3) := by decide +kernel
theorem dX12_goWrit_220 : decode cX12_goWrit 220 = .ok (.iload_n 3, 1) := by decide +kernel
theorem dX12_goWrit_221 : decode cX12_goWrit 221 = .ok (.invokestatic 104, 3) := by decide +kernel
theorem dX12_goWrit_224 : decode cX12_goWrit 224 = .ok (.iconst 5, 1) := by decide +kernel
theorem dX12_goWrit_225 : decode cX12_goWrit 225 = .ok (.iadd, 1) := by decide +kernel
theorem dX12_goWrit_226 : decode cX12_goWrit 226 = .ok (.iaload, 1) := by decide +kernel
theorem dX12_goWrit_227 : decode cX12_goWrit 227 = .ok (.ifCond .ne 34, 3) := by decide +kernel
theorem dX12_goWrit_230 : decode cX12_goWrit 230 = .ok (.aload_n 0, 1) := by decide +kernel
theorem dX12_goWrit_231 : decode cX12_goWrit 231 = .ok (.getfield 8, 3) := by decide +kernel
theorem dX12_goWrit_234 : decode cX12_goWrit 234 = .ok (.iload_n 3, 1) := by decide +kernel
theorem dX12_goWrit_235 : decode cX12_goWrit 235 = .ok (.invokestatic 104, 3) := by decide +kernel
theorem dX12_goWrit_238 : decode cX12_goWrit 238 = .ok (.iconst 5, 1) := by decide +kernel
theorem dX12_goWrit_239 : decode cX12_goWrit 239 = .ok (.iadd, 1) := by decide +kernel
theorem dX12_goWrit_240 : decode cX12_goWrit 240 = .ok (.iconst 1, 1) := by decide +kernel
theorem dX12_goWrit_241 : decode cX12_goWrit 241 = .ok (.iastore, 1) := by decide +kernel
theorem dX12_goWrit_242 : decode cX12_goWrit 242 = .ok (.aload_n 0, 1) := by decide +kernel
theorem dX12_goWrit_243 : decode cX12_goWrit 243 = .ok (.getfield 8, 3) := by decide +kernel
theorem dX12_goWrit_246 : decode cX12_goWrit 246 = .ok (.iload_n 3, 1) := by decide +kernel
theorem dX12_goWrit_247 : decode cX12_goWrit 247 = .ok (.invokestatic 104, 3) := by decide +kernel
theorem dX12_goWrit_250 : decode cX12_goWrit 250 = .ok (.bipush 7, 2) := by decide +kernel
theorem dX12_goWrit_252 : decode cX12_goWrit 252 = .ok (.iadd, 1) := by decide +kernel
theorem dX12_goWrit_253 : decode cX12_goWrit 253 = .ok (.aload_n 0, 1) := by decide +kernel
theorem dX12_goWrit_254 : decode cX12_goWrit 254 = .ok (.getfield 8, 3) := by decide +kernel
theorem dX12_goWrit_257 : decode cX12_goWrit 257 = .ok (.bipush 8, 2) := by decide +kernel
theorem dX12_goWrit_259 : decode cX12_goWrit 259 = .ok (.iaload, 1) := by decide +kernel
theorem dX12_goWrit_260 : decode cX12_goWrit 260 = .ok (.iastore, 1) := by decide +kernel
theorem dX12_goWrit_130 : decode cX12_goWrit 130 = .ok (.aload_n 0, 1) := by decide +kernel
theorem dX12_goWrit_131 : decode cX12_goWrit 131 = .ok (.getfield 8, 3) := by decide +kernel
theorem dX12_goWrit_134 : decode cX12_goWrit 134 = .ok (.iload_n 1, 1) := by decide +kernel
theorem dX12_goWrit_135 : decode cX12_goWrit 135 = .ok (.iconst 3, 1) := by decide +kernel
theorem dX12_goWrit_136 : decode cX12_goWrit 136 = .ok (.iadd, 1) := by decide +kernel
theorem dX12_goWrit_137 : decode cX12_goWrit 137 = .ok (.aload_n 0, 1) := by decide +kernel
theorem dX12_goWrit_138 : decode cX12_goWrit 138 = .ok (.aload_n 0, 1) := by decide +kernel
theorem dX12_goWrit_139 : decode cX12_goWrit 139 = .ok (.getfield 8, 3) := by decide +kernel
theorem dX12_goWrit_142 : decode cX12_goWrit 142 = .ok (.iload_n 1, 1) := by decide +kernel
theorem dX12_goWrit_143 : decode cX12_goWrit 143 = .ok (.iconst 2, 1) := by decide +kernel
theorem dX12_goWrit_144 : decode cX12_goWrit 144 = .ok (.iadd, 1) := by decide +kernel
theorem dX12_goWrit_145 : decode cX12_goWrit 145 = .ok (.iaload, 1) := by decide +kernel
theorem dX12_goWrit_146 : decode cX12_goWrit 146 = .ok (.invokevirtual 455, 3) := by decide +kernel
theorem dX12_goWrit_149 : decode cX12_goWrit 149 = .ok (.iastore, 1) := by decide +kernel
theorem dX12_goWrit_150 : decode cX12_goWrit 150 = .ok (.return_, 1) := by decide +kernel
theorem dX12_goWrit_105 : decode cX12_goWrit 105 = .ok (.return_, 1) := by decide +kernel
theorem dX12_bringCrops_0 : decode cX12_bringCrops 0 = .ok (.iconst 0, 1) := by decide +kernel
theorem dX12_bringCrops_1 : decode cX12_bringCrops 1 = .ok (.istore_n 1, 1) := by decide +kernel
theorem dX12_bringCrops_2 : decode cX12_bringCrops 2 = .ok (.iload_n 1, 1) := by decide +kernel
theorem dX12_bringCrops_3 : decode cX12_bringCrops 3 = .ok (.aload_n 0, 1) := by decide +kernel
theorem dX12_bringCrops_4 : decode cX12_bringCrops 4 = .ok (.getfield 8, 3) := by decide +kernel
theorem dX12_bringCrops_7 : decode cX12_bringCrops 7 = .ok (.iconst 2, 1) := by decide +kernel
theorem dX12_bringCrops_8 : decode cX12_bringCrops 8 = .ok (.iaload, 1) := by decide +kernel
theorem dX12_bringCrops_9 : decode cX12_bringCrops 9 = .ok (.if_icmp .ge 115, 3) := by decide +kernel
theorem dX12_bringCrops_124 : decode cX12_bringCrops 124 = .ok (.return_, 1) := by decide +kernel
theorem dX12_bringCrops_12 : decode cX12_bringCrops 12 = .ok (.aload_n 0, 1) := by decide +kernel
theorem dX12_bringCrops_13 : decode cX12_bringCrops 13 = .ok (.getfield 8, 3) := by decide +kernel
theorem dX12_bringCrops_16 : decode cX12_bringCrops 16 = .ok (.iload_n 1, 1) := by decide +kernel
theorem dX12_bringCrops_17 : decode cX12_bringCrops 17 = .ok (.invokestatic 135, 3) := by decide +kernel
theorem dX12_bringCrops_20 : decode cX12_bringCrops 20 = .ok (.iconst 3, 1) := by decide +kernel
theorem dX12_bringCrops_21 : decode cX12_bringCrops 21 = .ok (.iadd, 1) := by decide +kernel
theorem dX12_bringCrops_22 : decode cX12_bringCrops 22 = .ok (.iaload, 1) := by decide +kernel
theorem dX12_bringCrops_23 : decode cX12_bringCrops 23 = .ok (.istore_n 2, 1) := by decide +kernel
theorem dX12_bringCrops_24 : decode cX12_bringCrops 24 = .ok (.aload_n 0, 1) := by decide +kernel
theorem dX12_bringCrops_25 : decode cX12_bringCrops 25 = .ok (.getfield 8, 3) := by decide +kernel
theorem dX12_bringCrops_28 : decode cX12_bringCrops 28 = .ok (.sipush 1582, 3) := by decide +kernel
theorem dX12_bringCrops_31 : decode cX12_bringCrops 31 = .ok (.bipush 41, 2) := by decide +kernel
theorem dX12_bringCrops_33 : decode cX12_bringCrops 33 = .ok (.aload_n 0, 1) := by decide +kernel
theorem dX12_bringCrops_34 : decode cX12_bringCrops 34 = .ok (.getfield 8, 3) := by decide +kernel
theorem dX12_bringCrops_37 : decode cX12_bringCrops 37 = .ok (.bipush 8, 2) := by decide +kernel
theorem dX12_bringCrops_39 : decode cX12_bringCrops 39 = .ok (.iaload, 1) := by decide +kernel
theorem dX12_bringCrops_40 : decode cX12_bringCrops 40 = .ok (.imul, 1) := by decide +kernel
theorem dX12_bringCrops_41 : decode cX12_bringCrops 41 = .ok (.iadd, 1) := by decide +kernel
theorem dX12_bringCrops_42 : decode cX12_bringCrops 42 = .ok (.iconst 1, 1) := by decide +kernel
theorem dX12_bringCrops_43 : decode cX12_bringCrops 43 = .ok (.iadd, 1) := by decide +kernel
theorem dX12_bringCrops_44 : decode cX12_bringCrops 44 = .ok (.iload_n 1, 1) := by decide +kernel
theorem dX12_bringCrops_45 : decode cX12_bringCrops 45 = .ok (.iadd, 1) := by decide +kernel
theorem dX12_bringCrops_46 : decode cX12_bringCrops 46 = .ok (.iaload, 1) := by decide +kernel
theorem dX12_bringCrops_47 : decode cX12_bringCrops 47 = .ok (.iconst 1, 1) := by decide +kernel
theorem dX12_bringCrops_48 : decode cX12_bringCrops 48 = .ok (.isub, 1) := by decide +kernel
theorem dX12_bringCrops_49 : decode cX12_bringCrops 49 = .ok (.istore_n 3, 1) := by decide +kernel
theorem dX12_bringCrops_50 : decode cX12_bringCrops 50 = .ok (.aload_n 0, 1) := by decide +kernel
theorem dX12_bringCrops_51 : decode cX12_bringCrops 51 = .ok (.getfield 161, 3) := by decide +kernel
theorem dX12_bringCrops_54 : decode cX12_bringCrops 54 = .ok (.ifCond .eq 40, 3) := by decide +kernel
theorem dX12_bringCrops_94 : decode cX12_bringCrops 94 = .ok (.iload_n 2, 1) := by decide +kernel
theorem dX12_bringCrops_95 : decode cX12_bringCrops 95 = .ok (.iconst (-1), 1) := by decide +kernel
theorem dX12_bringCrops_96 : decode cX12_bringCrops 96 = .ok (.if_icmp .eq 22, 3) := by decide +kernel
theorem dX12_bringCrops_118 : decode cX12_bringCrops 118 = .ok (.iinc 1 1, 3) := by decide +kernel
theorem dX12_bringCrops_121 : decode cX12_bringCrops 121 = .ok (.goto (-119), 3) := by decide +kernel
theorem dX12_bringCrops_99 : decode cX12_bringCrops 99 = .ok (.iload_n 3, 1) := by decide +kernel
theorem dX12_bringCrops_100 : decode cX12_bringCrops 100 = .ok (.ifCond .le 18, 3) := by decide +kernel
theorem dX12_bringCrops_103 : decode cX12_bringCrops 103 = .ok (.aload_n 0, 1) := by decide +kernel
theorem dX12_bringCrops_104 : decode cX12_bringCrops 104 = .ok (.getfield 8, 3) := by decide +kernel
theorem dX12_bringCrops_107 : decode cX12_bringCrops 107 = .ok (.iload_n 2, 1) := by decide +kernel
theorem dX12_bringCrops_108 : decode cX12_bringCrops 108 = .ok (.invokestatic 104, 3) := by decide +kernel
theorem dX12_bringCrops_111 : decode cX12_bringCrops 111 = .ok (.iconst 4, 1) := by decide +kernel
theorem dX12_bringCrops_112 : decode cX12_bringCrops 112 = .ok (.iadd, 1) := by decide +kernel
theorem dX12_bringCrops_113 : decode cX12_bringCrops 113 = .ok (.dup2, 1) := by decide +kernel
theorem dX12_bringCrops_114 : decode cX12_bringCrops 114 = .ok (.iaload, 1) := by decide +kernel
theorem dX12_bringCrops_115 : decode cX12_bringCrops 115 = .ok (.iload_n 3, 1) := by decide +kernel
theorem dX12_bringCrops_116 : decode cX12_bringCrops 116 = .ok (.iadd, 1) := by decide +kernel
theorem dX12_bringCrops_117 : decode cX12_bringCrops 117 = .ok (.iastore, 1) := by decide +kernel
theorem dX12_bringCrops_57 : decode cX12_bringCrops 57 = .ok (.aload_n 0, 1) := by decide +kernel
theorem dX12_bringCrops_58 : decode cX12_bringCrops 58 = .ok (.getfield 8, 3) := by decide +kernel
theorem dX12_bringCrops_61 : decode cX12_bringCrops 61 = .ok (.bipush 8, 2) := by decide +kernel
theorem dX12_bringCrops_63 : decode cX12_bringCrops 63 = .ok (.iaload, 1) := by decide +kernel
theorem dX12_bringCrops_64 : decode cX12_bringCrops 64 = .ok (.bipush 13, 2) := by decide +kernel
theorem dX12_bringCrops_66 : decode cX12_bringCrops 66 = .ok (.irem, 1) := by decide +kernel
theorem dX12_bringCrops_67 : decode cX12_bringCrops 67 = .ok (.ifCond .ne 25, 3) := by decide +kernel
theorem dX12_bringCrops_93 : decode cX12_bringCrops 93 = .ok (.istore_n 3, 1) := by decide +kernel
theorem dX12_bringCrops_92 : decode cX12_bringCrops 92 = .ok (.iconst 0, 1) := by decide +kernel
theorem dX12_bringCrops_70 : decode cX12_bringCrops 70 = .ok (.aload_n 0, 1) := by decide +kernel
theorem dX12_bringCrops_71 : decode cX12_bringCrops 71 = .ok (.getfield 452, 3) := by decide +kernel
theorem dX12_bringCrops_74 : decode cX12_bringCrops 74 = .ok (.aload_n 0, 1) := by decide +kernel
theorem dX12_bringCrops_75 : decode cX12_bringCrops 75 = .ok (.getfield 8, 3) := by decide +kernel
theorem dX12_bringCrops_78 : decode cX12_bringCrops 78 = .ok (.iload_n 1, 1) := by decide +kernel
theorem dX12_bringCrops_79 : decode cX12_bringCrops 79 = .ok (.invokestatic 135, 3) := by decide +kernel
theorem dX12_bringCrops_82 : decode cX12_bringCrops 82 = .ok (.iconst 1, 1) := by decide +kernel
theorem dX12_bringCrops_83 : decode cX12_bringCrops 83 = .ok (.iadd, 1) := by decide +kernel
theorem dX12_bringCrops_84 : decode cX12_bringCrops 84 = .ok (.iaload, 1) := by decide +kernel
theorem dX12_bringCrops_85 : decode cX12_bringCrops 85 = .ok (.imul, 1) := by decide +kernel
theorem dX12_bringCrops_86 : decode cX12_bringCrops 86 = .ok (.bipush 100, 2) := by decide +kernel
theorem dX12_bringCrops_88 : decode cX12_bringCrops 88 = .ok (.idiv, 1) := by decide +kernel
theorem dX12_bringCrops_89 : decode cX12_bringCrops 89 = .ok (.goto 4, 3) := by decide +kernel
theorem dX12_payRents_0 : decode cX12_payRents 0 = .ok (.aload_n 0, 1) := by decide +kernel
theorem dX12_payRents_1 : decode cX12_payRents 1 = .ok (.invokevirtual 399, 3) := by decide +kernel
theorem dX12_payRents_4 : decode cX12_payRents 4 = .ok (.istore_n 1, 1) := by decide +kernel
theorem dX12_payRents_5 : decode cX12_payRents 5 = .ok (.iconst 0, 1) := by decide +kernel
theorem dX12_payRents_6 : decode cX12_payRents 6 = .ok (.istore_n 2, 1) := by decide +kernel
theorem dX12_payRents_7 : decode cX12_payRents 7 = .ok (.iload_n 2, 1) := by decide +kernel
theorem dX12_payRents_8 : decode cX12_payRents 8 = .ok (.aload_n 0, 1) := by decide +kernel
theorem dX12_payRents_9 : decode cX12_payRents 9 = .ok (.getfield 8, 3) := by decide +kernel
theorem dX12_payRents_12 : decode cX12_payRents 12 = .ok (.iconst 2, 1) := by decide +kernel
theorem dX12_payRents_13 : decode cX12_payRents 13 = .ok (.iaload, 1) := by decide +kernel
theorem dX12_payRents_14 : decode cX12_payRents 14 = .ok (.if_icmp .ge 280, 3) := by decide +kernel
theorem dX12_payRents_294 : decode cX12_payRents 294 = .ok (.iconst 0, 1) := by decide +kernel
theorem dX12_payRents_295 : decode cX12_payRents 295 = .ok (.istore_n 2, 1) := by decide +kernel
theorem dX12_payRents_296 : decode cX12_payRents 296 = .ok (.iload_n 2, 1) := by decide +kernel
theorem dX12_payRents_297 : decode cX12_payRents 297 = .ok (.aload_n 0, 1) := by decide +kernel
theorem dX12_payRents_298 : decode cX12_payRents 298 = .ok (.getfield 8, 3) := by decide +kernel
theorem dX12_payRents_301 : decode cX12_payRents 301 = .ok (.iconst 1, 1) := by decide +kernel
theorem dX12_payRents_302 : decode cX12_payRents 302 = .ok (.iaload, 1) := by decide +kernel
theorem dX12_payRents_303 : decode cX12_payRents 303 = .ok (.if_icmp .ge 86, 3) := by decide +kernel
theorem dX12_payRents_389 : decode cX12_payRents 389 = .ok (.return_, 1) := by decide +kernel
theorem dX12_payRents_306 : decode cX12_payRents 306 = .ok (.iload_n 2, 1) := by decide +kernel
theorem dX12_payRents_307 : decode cX12_payRents 307 = .ok (.invokestatic 125, 3) := by decide +kernel
theorem dX12_payRents_310 : decode cX12_payRents 310 = .ok (.istore_n 3, 1) := by decide +kernel
theorem dX12_payRents_311 : decode cX12_payRents 311 = .ok (.aload_n 0, 1) := by decide +kernel
theorem dX12_payRents_312 : decode cX12_payRents 312 = .ok (.getfield 8, 3) := by decide +kernel
theorem dX12_payRents_315 : decode cX12_payRents 315 = .ok (.iload_n 3, 1) := by decide +kernel
theorem dX12_payRents_316 : decode cX12_payRents 316 = .ok (.iconst 2, 1) := by decide +kernel
theorem dX12_payRents_317 : decode cX12_payRents 317 = .ok (.iadd, 1) := by decide +kernel
theorem dX12_payRents_318 : decode cX12_payRents 318 = .ok (.iaload, 1) := by decide +kernel
theorem dX12_payRents_319 : decode cX12_payRents 319 = .ok (.iconst (-1), 1) := by decide +kernel
theorem dX12_payRents_320 : decode cX12_payRents 320 = .ok (.if_icmp .ne 63, 3) := by decide +kernel
theorem dX12_payRents_383 : decode cX12_payRents 383 = .ok (.iinc 2 1, 3) := by decide +kernel
theorem dX12_payRents_386 : decode cX12_payRents 386 = .ok (.goto (-90), 3) := by decide +kernel
theorem dX12_payRents_323 : decode cX12_payRents 323 = .ok (.aload_n 0, 1) := by decide +kernel
theorem dX12_payRents_324 : decode cX12_payRents 324 = .ok (.getfield 8, 3) := by decide +kernel
theorem dX12_payRents_327 : decode cX12_payRents 327 = .ok (.iload_n 3, 1) := by decide +kernel
theorem dX12_payRents_328 : decode cX12_payRents 328 = .ok (.iconst 1, 1) := by decide +kernel
theorem dX12_payRents_329 : decode cX12_payRents 329 = .ok (.iadd, 1) := by decide +kernel
theorem dX12_payRents_330 : decode cX12_payRents 330 = .ok (.iaload, 1) := by decide +kernel
theorem dX12_payRents_331 : decode cX12_payRents 331 = .ok (.istore 4, 2) := by decide +kernel
theorem dX12_payRents_333 : decode cX12_payRents 333 = .ok (.aload_n 0, 1) := by decide +kernel
theorem dX12_payRents_334 : decode cX12_payRents 334 = .ok (.getfield 8, 3) := by decide +kernel
theorem dX12_payRents_337 : decode cX12_payRents 337 = .ok (.iload_n 3, 1) := by decide +kernel
theorem dX12_payRents_338 : decode cX12_payRents 338 = .ok (.iaload, 1) := by decide +kernel
theorem dX12_payRents_339 : decode cX12_payRents 339 = .ok (.iload 4, 2) := by decide +kernel
theorem dX12_payRents_341 : decode cX12_payRents 341 = .ok (.if_icmp .ge 31, 3) := by decide +kernel
theorem dX12_payRents_372 : decode cX12_payRents 372 = .ok (.aload_n 0, 1) := by decide +kernel
theorem dX12_payRents_373 : decode cX12_payRents 373 = .ok (.getfield 8, 3) := by decide +kernel
theorem dX12_payRents_376 : decode cX12_payRents 376 = .ok (.iload_n 3, 1) := by decide +kernel
theorem dX12_payRents_377 : decode cX12_payRents 377 = .ok (.dup2, 1) := by decide +kernel
theorem dX12_payRents_378 : decode cX12_payRents 378 = .ok (.iaload, 1) := by decide +kernel
theorem dX12_payRents_379 : decode cX12_payRents 379 = .ok (.iload 4, 2) := by decide +kernel
theorem dX12_payRents_381 : decode cX12_payRents 381 = .ok (.isub, 1) := by decide +kernel
theorem dX12_payRents_382 : decode cX12_payRents 382 = .ok (.iastore, 1) := by decide +kernel
theorem dX12_payRents_344 : decode cX12_payRents 344 = .ok (.aload_n 0, 1) := by decide +kernel
theorem dX12_payRents_345 : decode cX12_payRents 345 = .ok (.getfield 8, 3) := by decide +kernel
theorem dX12_payRents_348 : decode cX12_payRents 348 = .ok (.iload_n 3, 1) := by decide +kernel
theorem dX12_payRents_349 : decode cX12_payRents 349 = .ok (.iconst 2, 1) := by decide +kernel
theorem dX12_payRents_350 : decode cX12_payRents 350 = .ok (.iadd, 1) := by decide +kernel
theorem dX12_payRents_351 : decode cX12_payRents 351 = .ok (.aload_n 0, 1) := by decide +kernel
theorem dX12_payRents_352 : decode cX12_payRents 352 = .ok (.getfield 8, 3) := by decide +kernel
theorem dX12_payRents_355 : decode cX12_payRents 355 = .ok (.bipush 8, 2) := by decide +kernel
theorem dX12_payRents_357 : decode cX12_payRents 357 = .ok (.iaload, 1) := by decide +kernel
theorem dX12_payRents_358 : decode cX12_payRents 358 = .ok (.bipush 13, 2) := by decide +kernel
theorem dX12_payRents_360 : decode cX12_payRents 360 = .ok (.idiv, 1) := by decide +kernel
theorem dX12_payRents_361 : decode cX12_payRents 361 = .ok (.iastore, 1) := by decide +kernel
theorem dX12_payRents_362 : decode cX12_payRents 362 = .ok (.aload_n 0, 1) := by decide +kernel
theorem dX12_payRents_363 : decode cX12_payRents 363 = .ok (.getfield 8, 3) := by decide +kernel
theorem dX12_payRents_366 : decode cX12_payRents 366 = .ok (.iload_n 3, 1) := by decide +kernel
theorem dX12_payRents_367 : decode cX12_payRents 367 = .ok (.iconst 0, 1) := by decide +kernel
theorem dX12_payRents_368 : decode cX12_payRents 368 = .ok (.iastore, 1) := by decide +kernel
theorem dX12_payRents_369 : decode cX12_payRents 369 = .ok (.goto 14, 3) := by decide +kernel
theorem dX12_payRents_17 : decode cX12_payRents 17 = .ok (.iload_n 2, 1) := by decide +kernel
theorem dX12_payRents_18 : decode cX12_payRents 18 = .ok (.invokestatic 135, 3) := by decide +kernel
theorem dX12_payRents_21 : decode cX12_payRents 21 = .ok (.istore_n 3, 1) := by decide +kernel
theorem dX12_payRents_22 : decode cX12_payRents 22 = .ok (.aload_n 0, 1) := by decide +kernel
theorem dX12_payRents_23 : decode cX12_payRents 23 = .ok (.getfield 8, 3) := by decide +kernel
theorem dX12_payRents_26 : decode cX12_payRents 26 = .ok (.iload_n 3, 1) := by decide +kernel
theorem dX12_payRents_27 : decode cX12_payRents 27 = .ok (.iconst 3, 1) := by decide +kernel
theorem dX12_payRents_28 : decode cX12_payRents 28 = .ok (.iadd, 1) := by decide +kernel
theorem dX12_payRents_29 : decode cX12_payRents 29 = .ok (.iaload, 1) := by decide +kernel
theorem dX12_payRents_30 : decode cX12_payRents 30 = .ok (.iconst (-1), 1) := by decide +kernel
theorem dX12_payRents_31 : decode cX12_payRents 31 = .ok (.if_icmp .eq 257, 3) := by decide +kernel
theorem dX12_payRents_288 : decode cX12_payRents 288 = .ok (.iinc 2 1, 3) := by decide +kernel
theorem dX12_payRents_291 : decode cX12_payRents 291 = .ok (.goto (-284), 3) := by decide +kernel
theorem dX12_payRents_34 : decode cX12_payRents 34 = .ok (.aload_n 0, 1) := by decide +kernel
theorem dX12_payRents_35 : decode cX12_payRents 35 = .ok (.getfield 8, 3) := by decide +kernel
theorem dX12_payRents_38 : decode cX12_payRents 38 = .ok (.aload_n 0, 1) := by decide +kernel
theorem dX12_payRents_39 : decode cX12_payRents 39 = .ok (.getfield 8, 3) := by decide +kernel
theorem dX12_payRents_42 : decode cX12_payRents 42 = .ok (.iload_n 3, 1) := by decide +kernel
theorem dX12_payRents_43 : decode cX12_payRents 43 = .ok (.iconst 3, 1) := by decide +kernel
theorem dX12_payRents_44 : decode cX12_payRents 44 = .ok (.iadd, 1) := by decide +kernel
theorem dX12_payRents_45 : decode cX12_payRents 45 = .ok (.iaload, 1) := by decide +kernel
theorem dX12_payRents_46 : decode cX12_payRents 46 = .ok (.invokestatic 104, 3) := by decide +kernel
theorem dX12_payRents_49 : decode cX12_payRents 49 = .ok (.iconst 5, 1) := by decide +kernel
theorem dX12_payRents_50 : decode cX12_payRents 50 = .ok (.iadd, 1) := by decide +kernel
theorem dX12_payRents_51 : decode cX12_payRents 51 = .ok (.iaload, 1) := by decide +kernel
theorem dX12_payRents_52 : decode cX12_payRents 52 = .ok (.ifCond .ne 236, 3) := by decide +kernel
theorem dX12_payRents_55 : decode cX12_payRents 55 = .ok (.aload_n 0, 1) := by decide +kernel
theorem dX12_payRents_56 : decode cX12_payRents 56 = .ok (.iload_n 2, 1) := by decide +kernel
theorem dX12_payRents_57 : decode cX12_payRents 57 = .ok (.invokevirtual 439, 3) := by decide +kernel
theorem dX12_payRents_60 : decode cX12_payRents 60 = .ok (.aload_n 0, 1) := by decide +kernel
theorem dX12_payRents_61 : decode cX12_payRents 61 = .ok (.getfield 8, 3) := by decide +kernel
theorem dX12_payRents_64 : decode cX12_payRents 64 = .ok (.iload_n 3, 1) := by decide +kernel
theorem dX12_payRents_65 : decode cX12_payRents 65 = .ok (.iconst 4, 1) := by decide +kernel
theorem dX12_payRents_66 : decode cX12_payRents 66 = .ok (.iadd, 1) := by decide +kernel
theorem dX12_payRents_67 : decode cX12_payRents 67 = .ok (.iaload, 1) := by decide +kernel
theorem dX12_payRents_68 : decode cX12_payRents 68 = .ok (.iadd, 1) := by decide +kernel
theorem dX12_payRents_69 : decode cX12_payRents 69 = .ok (.istore 4, 2) := by decide +kernel
theorem dX12_payRents_71 : decode cX12_payRents 71 = .ok (.aload_n 0, 1) := by decide +kernel
theorem dX12_payRents_72 : decode cX12_payRents 72 = .ok (.iload_n 2, 1) := by decide +kernel
theorem dX12_payRents_73 : decode cX12_payRents 73 = .ok (.invokevirtual 153, 3) := by decide +kernel
theorem dX12_payRents_76 : decode cX12_payRents 76 = .ok (.ifCond .eq 11, 3) := by decide +kernel
theorem dX12_payRents_89 : decode cX12_payRents 89 = .ok (.istore 5, 2) := by decide +kernel
theorem dX12_payRents_91 : decode cX12_payRents 91 = .ok (.aload_n 0, 1) := by decide +kernel
theorem dX12_payRents_92 : decode cX12_payRents 92 = .ok (.getfield 8, 3) := by decide +kernel
theorem dX12_payRents_95 : decode cX12_payRents 95 = .ok (.iload_n 3, 1) := by decide +kernel
theorem dX12_payRents_96 : decode cX12_payRents 96 = .ok (.iconst 3, 1) := by decide +kernel
theorem dX12_payRents_97 : decode cX12_payRents 97 = .ok (.iadd, 1) := by decide +kernel
theorem dX12_payRents_98 : decode cX12_payRents 98 = .ok (.iaload, 1) := by decide +kernel
theorem dX12_payRents_99 : decode cX12_payRents 99 = .ok (.invokestatic 104, 3) := by decide +kernel
theorem dX12_payRents_102 : decode cX12_payRents 102 = .ok (.istore 6, 2) := by decide +kernel
theorem dX12_payRents_104 : decode cX12_payRents 104 = .ok (.iload 5, 2) := by decide +kernel
theorem dX12_payRents_106 : decode cX12_payRents 106 = .ok (.aload_n 0, 1) := by decide +kernel
theorem dX12_payRents_107 : decode cX12_payRents 107 = .ok (.getfield 8, 3) := by decide +kernel
theorem dX12_payRents_110 : decode cX12_payRents 110 = .ok (.iload 6, 2) := by decide +kernel
theorem dX12_payRents_112 : decode cX12_payRents 112 = .ok (.iconst 1, 1) := by decide +kernel
theorem dX12_payRents_113 : decode cX12_payRents 113 = .ok (.iadd, 1) := by decide +kernel
theorem dX12_payRents_114 : decode cX12_payRents 114 = .ok (.iaload, 1) := by decide +kernel
theorem dX12_payRents_115 : decode cX12_payRents 115 = .ok (.isub, 1) := by decide +kernel
theorem dX12_payRents_116 : decode cX12_payRents 116 = .ok (.istore 7, 2) := by decide +kernel
theorem dX12_payRents_118 : decode cX12_payRents 118 = .ok (.iload 7, 2) := by decide +kernel
theorem dX12_payRents_120 : decode cX12_payRents 120 = .ok (.ifCond .le 77, 3) := by decide +kernel
theorem dX12_payRents_197 : decode cX12_payRents 197 = .ok (.iload 5, 2) := by decide +kernel
theorem dX12_payRents_199 : decode cX12_payRents 199 = .ok (.aload_n 0, 1) := by decide +kernel
theorem dX12_payRents_200 : decode cX12_payRents 200 = .ok (.getfield 8, 3) := by decide +kernel
theorem dX12_payRents_203 : decode cX12_payRents 203 = .ok (.iload 6, 2) := by decide +kernel
theorem dX12_payRents_205 : decode cX12_payRents 205 = .ok (.iconst 1, 1) := by decide +kernel
theorem dX12_payRents_206 : decode cX12_payRents 206 = .ok (.iadd, 1) := by decide +kernel
theorem dX12_payRents_207 : decode cX12_payRents 207 = .ok (.iaload, 1) := by decide +kernel
theorem dX12_payRents_208 : decode cX12_payRents 208 = .ok (.if_icmp .le 15, 3) := by decide +kernel
theorem dX12_payRents_225 : decode cX12_payRents 225 = .ok (.istore 8, 2) := by decide +kernel
theorem dX12_payRents_227 : decode cX12_payRents 227 = .ok (.aload_n 0, 1) := by decide +kernel
theorem dX12_payRents_228 : decode cX12_payRents 228 = .ok (.getfield 8, 3) := by decide +kernel
theorem dX12_payRents_231 : decode cX12_payRents 231 = .ok (.iload 6, 2) := by decide +kernel
theorem dX12_payRents_233 : decode cX12_payRents 233 = .ok (.iconst 1, 1) := by decide +kernel
theorem dX12_payRents_234 : decode cX12_payRents 234 = .ok (.iadd, 1) := by decide +kernel
theorem dX12_payRents_235 : decode cX12_payRents 235 = .ok (.dup2, 1) := by decide +kernel
theorem dX12_payRents_236 : decode cX12_payRents 236 = .ok (.iaload, 1) := by decide +kernel
theorem dX12_payRents_237 : decode cX12_payRents 237 = .ok (.iload 8, 2) := by decide +kernel
theorem dX12_payRents_239 : decode cX12_payRents 239 = .ok (.isub, 1) := by decide +kernel
theorem dX12_payRents_240 : decode cX12_payRents 240 = .ok (.iastore, 1) := by decide +kernel
theorem dX12_payRents_241 : decode cX12_payRents 241 = .ok (.aload_n 0, 1) := by decide +kernel
theorem dX12_payRents_242 : decode cX12_payRents 242 = .ok (.getfield 8, 3) := by decide +kernel
theorem dX12_payRents_245 : decode cX12_payRents 245 = .ok (.aload_n 0, 1) := by decide +kernel
theorem dX12_payRents_246 : decode cX12_payRents 246 = .ok (.getfield 8, 3) := by decide +kernel
theorem dX12_payRents_249 : decode cX12_payRents 249 = .ok (.iload_n 3, 1) := by decide +kernel
theorem dX12_payRents_250 : decode cX12_payRents 250 = .ok (.iaload, 1) := by decide +kernel
theorem dX12_payRents_251 : decode cX12_payRents 251 = .ok (.invokestatic 125, 3) := by decide +kernel
theorem dX12_payRents_254 : decode cX12_payRents 254 = .ok (.dup2, 1) := by decide +kernel
theorem dX12_payRents_255 : decode cX12_payRents 255 = .ok (.iaload, 1) := by decide +kernel
theorem dX12_payRents_256 : decode cX12_payRents 256 = .ok (.iload 8, 2) := by decide +kernel
theorem dX12_payRents_258 : decode cX12_payRents 258 = .ok (.iadd, 1) := by decide +kernel
theorem dX12_payRents_259 : decode cX12_payRents 259 = .ok (.iastore, 1) := by decide +kernel
theorem dX12_payRents_260 : decode cX12_payRents 260 = .ok (.aload_n 0, 1) := by decide +kernel
theorem dX12_payRents_261 : decode cX12_payRents 261 = .ok (.getfield 8, 3) := by decide +kernel
theorem dX12_payRents_264 : decode cX12_payRents 264 = .ok (.iload_n 3, 1) := by decide +kernel
theorem dX12_payRents_265 : decode cX12_payRents 265 = .ok (.iconst 4, 1) := by decide +kernel
theorem dX12_payRents_266 : decode cX12_payRents 266 = .ok (.iadd, 1) := by decide +kernel
theorem dX12_payRents_267 : decode cX12_payRents 267 = .ok (.iload 4, 2) := by decide +kernel
theorem dX12_payRents_269 : decode cX12_payRents 269 = .ok (.iload 8, 2) := by decide +kernel
theorem dX12_payRents_271 : decode cX12_payRents 271 = .ok (.isub, 1) := by decide +kernel
theorem dX12_payRents_272 : decode cX12_payRents 272 = .ok (.ldc 121, 2) := by decide +kernel
theorem dX12_payRents_274 : decode cX12_payRents 274 = .ok (.if_icmp .le 8, 3) := by decide +kernel
theorem dX12_payRents_287 : decode cX12_payRents 287 = .ok (.iastore, 1) := by decide +kernel
theorem dX12_payRents_282 : decode cX12_payRents 282 = .ok (.iload 4, 2) := by decide +kernel
theorem dX12_payRents_284 : decode cX12_payRents 284 = .ok (.iload 8, 2) := by decide +kernel
theorem dX12_payRents_286 : decode cX12_payRents 286 = .ok (.isub, 1) := by decide +kernel
theorem dX12_payRents_277 : decode cX12_payRents 277 = .ok (.ldc 121, 2) := by decide +kernel
theorem dX12_payRents_279 : decode cX12_payRents 279 = .ok (.goto 8, 3) := by decide +kernel
theorem dX12_payRents_223 : decode cX12_payRents 223 = .ok (.iload 5, 2) := by decide +kernel
theorem dX12_payRents_211 : decode cX12_payRents 211 = .ok (.aload_n 0, 1) := by decide +kernel
theorem dX12_payRents_212 : decode cX12_payRents 212 = .ok (.getfield 8, 3) := by decide +kernel
theorem dX12_payRents_215 : decode cX12_payRents 215 = .ok (.iload 6, 2) := by decide +kernel
theorem dX12_payRents_217 : decode cX12_payRents 217 = .ok (.iconst 1, 1) := by decide +kernel
theorem dX12_payRents_218 : decode cX12_payRents 218 = .ok (.iadd, 1) := by decide +kernel
theorem dX12_payRents_219 : decode cX12_payRents 219 = .ok (.iaload, 1) := by decide +kernel
theorem dX12_payRents_220 : decode cX12_payRents 220 = .ok (.goto 5, 3) := by decide +kernel
theorem dX12_payRents_123 : decode cX12_payRents 123 = .ok (.iload_n 1, 1) := by decide +kernel
theorem dX12_payRents_124 : decode cX12_payRents 124 = .ok (.ifCond .le 73, 3) := by decide +kernel
theorem dX12_payRents_127 : decode cX12_payRents 127 = .ok (.iload 7, 2) := by decide +kernel
theorem dX12_payRents_129 : decode cX12_payRents 129 = .ok (.iload_n 1, 1) := by decide +kernel
theorem dX12_payRents_130 : decode cX12_payRents 130 = .ok (.iadd, 1) := by decide +kernel
theorem dX12_payRents_131 : decode cX12_payRents 131 = .ok (.iconst 1, 1) := by decide +kernel
theorem dX12_payRents_132 : decode cX12_payRents 132 = .ok (.isub, 1) := by decide +kernel
theorem dX12_payRents_133 : decode cX12_payRents 133 = .ok (.iload_n 1, 1) := by decide +kernel
theorem dX12_payRents_134 : decode cX12_payRents 134 = .ok (.idiv, 1) := by decide +kernel
theorem dX12_payRents_135 : decode cX12_payRents 135 = .ok (.istore 8, 2) := by decide +kernel
theorem dX12_payRents_137 : decode cX12_payRents 137 = .ok (.iload 8, 2) := by decide +kernel
theorem dX12_payRents_139 : decode cX12_payRents 139 = .ok (.aload_n 0, 1) := by decide +kernel
theorem dX12_payRents_140 : decode cX12_payRents 140 = .ok (.getfield 8, 3) := by decide +kernel
theorem dX12_payRents_143 : decode cX12_payRents 143 = .ok (.iload 6, 2) := by decide +kernel
theorem dX12_payRents_145 : decode cX12_payRents 145 = .ok (.iconst 4, 1) := by decide +kernel
theorem dX12_payRents_146 : decode cX12_payRents 146 = .ok (.iadd, 1) := by decide +kernel
theorem dX12_payRents_147 : decode cX12_payRents 147 = .ok (.iaload, 1) := by decide +kernel
theorem dX12_payRents_148 : decode cX12_payRents 148 = .ok (.if_icmp .le 15, 3) := by decide +kernel
theorem dX12_payRents_165 : decode cX12_payRents 165 = .ok (.istore 8, 2) := by decide +kernel
theorem dX12_payRents_167 : decode cX12_payRents 167 = .ok (.aload_n 0, 1) := by decide +kernel
theorem dX12_payRents_168 : decode cX12_payRents 168 = .ok (.getfield 8, 3) := by decide +kernel
theorem dX12_payRents_171 : decode cX12_payRents 171 = .ok (.iload 6, 2) := by decide +kernel
theorem dX12_payRents_173 : decode cX12_payRents 173 = .ok (.iconst 4, 1) := by decide +kernel
theorem dX12_payRents_174 : decode cX12_payRents 174 = .ok (.iadd, 1) := by decide +kernel
theorem dX12_payRents_175 : decode cX12_payRents 175 = .ok (.dup2, 1) := by decide +kernel
theorem dX12_payRents_176 : decode cX12_payRents 176 = .ok (.iaload, 1) := by decide +kernel
theorem dX12_payRents_177 : decode cX12_payRents 177 = .ok (.iload 8, 2) := by decide +kernel
theorem dX12_payRents_179 : decode cX12_payRents 179 = .ok (.isub, 1) := by decide +kernel
theorem dX12_payRents_180 : decode cX12_payRents 180 = .ok (.iastore, 1) := by decide +kernel
theorem dX12_payRents_181 : decode cX12_payRents 181 = .ok (.aload_n 0, 1) := by decide +kernel
theorem dX12_payRents_182 : decode cX12_payRents 182 = .ok (.getfield 8, 3) := by decide +kernel
theorem dX12_payRents_185 : decode cX12_payRents 185 = .ok (.iload 6, 2) := by decide +kernel
theorem dX12_payRents_187 : decode cX12_payRents 187 = .ok (.iconst 1, 1) := by decide +kernel
theorem dX12_payRents_188 : decode cX12_payRents 188 = .ok (.iadd, 1) := by decide +kernel
theorem dX12_payRents_189 : decode cX12_payRents 189 = .ok (.dup2, 1) := by decide +kernel
theorem dX12_payRents_190 : decode cX12_payRents 190 = .ok (.iaload, 1) := by decide +kernel
theorem dX12_payRents_191 : decode cX12_payRents 191 = .ok (.iload 8, 2) := by decide +kernel
theorem dX12_payRents_193 : decode cX12_payRents 193 = .ok (.iload_n 1, 1) := by decide +kernel
theorem dX12_payRents_194 : decode cX12_payRents 194 = .ok (.imul, 1) := by decide +kernel
theorem dX12_payRents_195 : decode cX12_payRents 195 = .ok (.iadd, 1) := by decide +kernel
theorem dX12_payRents_196 : decode cX12_payRents 196 = .ok (.iastore, 1) := by decide +kernel
theorem dX12_payRents_163 : decode cX12_payRents 163 = .ok (.iload 8, 2) := by decide +kernel
theorem dX12_payRents_151 : decode cX12_payRents 151 = .ok (.aload_n 0, 1) := by decide +kernel
theorem dX12_payRents_152 : decode cX12_payRents 152 = .ok (.getfield 8, 3) := by decide +kernel
theorem dX12_payRents_155 : decode cX12_payRents 155 = .ok (.iload 6, 2) := by decide +kernel
theorem dX12_payRents_157 : decode cX12_payRents 157 = .ok (.iconst 4, 1) := by decide +kernel
theorem dX12_payRents_158 : decode cX12_payRents 158 = .ok (.iadd, 1) := by decide +kernel
theorem dX12_payRents_159 : decode cX12_payRents 159 = .ok (.iaload, 1) := by decide +kernel
theorem dX12_payRents_160 : decode cX12_payRents 160 = .ok (.goto 5, 3) := by decide +kernel
theorem dX12_payRents_87 : decode cX12_payRents 87 = .ok (.iload 4, 2) := by decide +kernel
theorem dX12_payRents_79 : decode cX12_payRents 79 = .ok (.aload_n 0, 1) := by decide +kernel
theorem dX12_payRents_80 : decode cX12_payRents 80 = .ok (.iload_n 2, 1) := by decide +kernel
theorem dX12_payRents_81 : decode cX12_payRents 81 = .ok (.invokevirtual 150, 3) := by decide +kernel
theorem dX12_payRents_84 : decode cX12_payRents 84 = .ok (.goto 5, 3) := by decide +kernel
theorem dX12_goWeek_0 : decode cX12_goWeek 0 = .ok (.aload_n 0, 1) := by decide +kernel
theorem dX12_goWeek_1 : decode cX12_goWeek 1 = .ok (.invokevirtual 147, 3) := by decide +kernel
theorem dX12_goWeek_4 : decode cX12_goWeek 4 = .ok (.aload_n 0, 1) := by decide +kernel
theorem dX12_goWeek_5 : decode cX12_goWeek 5 = .ok (.invokevirtual 464, 3) := by decide +kernel
theorem dX12_goWeek_8 : decode cX12_goWeek 8 = .ok (.aload_n 0, 1) := by decide +kernel
theorem dX12_goWeek_9 : decode cX12_goWeek 9 = .ok (.getfield 8, 3) := by decide +kernel
theorem dX12_goWeek_12 : decode cX12_goWeek 12 = .ok (.bipush 8, 2) := by decide +kernel
theorem dX12_goWeek_14 : decode cX12_goWeek 14 = .ok (.iaload, 1) := by decide +kernel
theorem dX12_goWeek_15 : decode cX12_goWeek 15 = .ok (.bipush 13, 2) := by decide +kernel
theorem dX12_goWeek_17 : decode cX12_goWeek 17 = .ok (.irem, 1) := by decide +kernel
theorem dX12_goWeek_18 : decode cX12_goWeek 18 = .ok (.ifCond .ne 66, 3) := by decide +kernel
theorem dX12_goWeek_84 : decode cX12_goWeek 84 = .ok (.iconst 0, 1) := by decide +kernel
theorem dX12_goWeek_85 : decode cX12_goWeek 85 = .ok (.istore_n 1, 1) := by decide +kernel
theorem dX12_goWeek_86 : decode cX12_goWeek 86 = .ok (.iload_n 1, 1) := by decide +kernel
theorem dX12_goWeek_87 : decode cX12_goWeek 87 = .ok (.aload_n 0, 1) := by decide +kernel
theorem dX12_goWeek_88 : decode cX12_goWeek 88 = .ok (.getfield 8, 3) := by decide +kernel
theorem dX12_goWeek_91 : decode cX12_goWeek 91 = .ok (.iconst 4, 1) := by decide +kernel
theorem dX12_goWeek_92 : decode cX12_goWeek 92 = .ok (.iaload, 1) := by decide +kernel
theorem dX12_goWeek_93 : decode cX12_goWeek 93 = .ok (.if_icmp .ge 39, 3) := by decide +kernel
theorem dX12_goWeek_132 : decode cX12_goWeek 132 = .ok (.iconst 0, 1) := by decide +kernel
theorem dX12_goWeek_133 : decode cX12_goWeek 133 = .ok (.istore_n 1, 1) := by decide +kernel
theorem dX12_goWeek_134 : decode cX12_goWeek 134 = .ok (.iload_n 1, 1) := by decide +kernel
theorem dX12_goWeek_135 : decode cX12_goWeek 135 = .ok (.aload_n 0, 1) := by decide +kernel
theorem dX12_goWeek_136 : decode cX12_goWeek 136 = .ok (.getfield 8, 3) := by decide +kernel
theorem dX12_goWeek_139 : decode cX12_goWeek 139 = .ok (.iconst 0, 1) := by decide +kernel
theorem dX12_goWeek_140 : decode cX12_goWeek 140 = .ok (.iaload, 1) := by decide +kernel
theorem dX12_goWeek_141 : decode cX12_goWeek 141 = .ok (.if_icmp .ge 96, 3) := by decide +kernel
theorem dX12_goWeek_237 : decode cX12_goWeek 237 = .ok (.iconst 0, 1) := by decide +kernel
theorem dX12_goWeek_238 : decode cX12_goWeek 238 = .ok (.istore_n 1, 1) := by decide +kernel
theorem dX12_goWeek_239 : decode cX12_goWeek 239 = .ok (.iload_n 1, 1) := by decide +kernel
theorem dX12_goWeek_240 : decode cX12_goWeek 240 = .ok (.aload_n 0, 1) := by decide +kernel
theorem dX12_goWeek_241 : decode cX12_goWeek 241 = .ok (.getfield 8, 3) := by decide +kernel
theorem dX12_goWeek_244 : decode cX12_goWeek 244 = .ok (.iconst 0, 1) := by decide +kernel
theorem dX12_goWeek_245 : decode cX12_goWeek 245 = .ok (.iaload, 1) := by decide +kernel
theorem dX12_goWeek_246 : decode cX12_goWeek 246 = .ok (.if_icmp .ge 22, 3) := by decide +kernel
theorem dX12_goWeek_268 : decode cX12_goWeek 268 = .ok (.iconst 0, 1) := by decide +kernel
theorem dX12_goWeek_269 : decode cX12_goWeek 269 = .ok (.istore_n 1, 1) := by decide +kernel
theorem dX12_goWeek_270 : decode cX12_goWeek 270 = .ok (.iload_n 1, 1) := by decide +kernel
theorem dX12_goWeek_271 : decode cX12_goWeek 271 = .ok (.aload_n 0, 1) := by decide +kernel
theorem dX12_goWeek_272 : decode cX12_goWeek 272 = .ok (.getfield 8, 3) := by decide +kernel
theorem dX12_goWeek_275 : decode cX12_goWeek 275 = .ok (.iconst 0, 1) := by decide +kernel
theorem dX12_goWeek_276 : decode cX12_goWeek 276 = .ok (.iaload, 1) := by decide +kernel
theorem dX12_goWeek_277 : decode cX12_goWeek 277 = .ok (.if_icmp .ge 35, 3) := by decide +kernel
theorem dX12_goWeek_312 : decode cX12_goWeek 312 = .ok (.aload_n 0, 1) := by decide +kernel
theorem dX12_goWeek_313 : decode cX12_goWeek 313 = .ok (.getfield 8, 3) := by decide +kernel
theorem dX12_goWeek_316 : decode cX12_goWeek 316 = .ok (.bipush 8, 2) := by decide +kernel
theorem dX12_goWeek_318 : decode cX12_goWeek 318 = .ok (.dup2, 1) := by decide +kernel
theorem dX12_goWeek_319 : decode cX12_goWeek 319 = .ok (.iaload, 1) := by decide +kernel
theorem dX12_goWeek_320 : decode cX12_goWeek 320 = .ok (.iconst 1, 1) := by decide +kernel
theorem dX12_goWeek_321 : decode cX12_goWeek 321 = .ok (.iadd, 1) := by decide +kernel
theorem dX12_goWeek_322 : decode cX12_goWeek 322 = .ok (.iastore, 1) := by decide +kernel
theorem dX12_goWeek_323 : decode cX12_goWeek 323 = .ok (.return_, 1) := by decide +kernel
theorem dX12_goWeek_280 : decode cX12_goWeek 280 = .ok (.aload_n 0, 1) := by decide +kernel
theorem dX12_goWeek_281 : decode cX12_goWeek 281 = .ok (.getfield 8, 3) := by decide +kernel
theorem dX12_goWeek_284 : decode cX12_goWeek 284 = .ok (.iload_n 1, 1) := by decide +kernel
theorem dX12_goWeek_285 : decode cX12_goWeek 285 = .ok (.invokestatic 104, 3) := by decide +kernel
theorem dX12_goWeek_288 : decode cX12_goWeek 288 = .ok (.bipush 6, 2) := by decide +kernel
theorem dX12_goWeek_290 : decode cX12_goWeek 290 = .ok (.iadd, 1) := by decide +kernel
theorem dX12_goWeek_291 : decode cX12_goWeek 291 = .ok (.aload_n 0, 1) := by decide +kernel
theorem dX12_goWeek_292 : decode cX12_goWeek 292 = .ok (.getfield 67, 3) := by decide +kernel
theorem dX12_goWeek_295 : decode cX12_goWeek 295 = .ok (.iload_n 1, 1) := by decide +kernel
theorem dX12_goWeek_296 : decode cX12_goWeek 296 = .ok (.baload, 1) := by decide +kernel
theorem dX12_goWeek_297 : decode cX12_goWeek 297 = .ok (.ifCond .eq 7, 3) := by decide +kernel
theorem dX12_goWeek_305 : decode cX12_goWeek 305 = .ok (.iastore, 1) := by decide +kernel
theorem dX12_goWeek_306 : decode cX12_goWeek 306 = .ok (.iinc 1 1, 3) := by decide +kernel
theorem dX12_goWeek_309 : decode cX12_goWeek 309 = .ok (.goto (-39), 3) := by decide +kernel
theorem dX12_goWeek_304 : decode cX12_goWeek 304 = .ok (.iconst 0, 1) := by decide +kernel
theorem dX12_goWeek_300 : decode cX12_goWeek 300 = .ok (.iconst 1, 1) := by decide +kernel
theorem dX12_goWeek_301 : decode cX12_goWeek 301 = .ok (.goto 4, 3) := by decide +kernel
theorem dX12_goWeek_249 : decode cX12_goWeek 249 = .ok (.aload_n 0, 1) := by decide +kernel
theorem dX12_goWeek_250 : decode cX12_goWeek 250 = .ok (.getfield 67, 3) := by decide +kernel
theorem dX12_goWeek_253 : decode cX12_goWeek 253 = .ok (.iload_n 1, 1) := by decide +kernel
theorem dX12_goWeek_254 : decode cX12_goWeek 254 = .ok (.aload_n 0, 1) := by decide +kernel
theorem dX12_goWeek_255 : decode cX12_goWeek 255 = .ok (.iconst 5, 1) := by decide +kernel
theorem dX12_goWeek_256 : decode cX12_goWeek 256 = .ok (.iload_n 1, 1) := by decide +kernel
theorem dX12_goWeek_257 : decode cX12_goWeek 257 = .ok (.iconst (-1), 1) := by decide +kernel
theorem dX12_goWeek_258 : decode cX12_goWeek 258 = .ok (.invokevirtual 442, 3) := by decide +kernel
theorem dX12_goWeek_261 : decode cX12_goWeek 261 = .ok (.bastore, 1) := by decide +kernel
theorem dX12_goWeek_262 : decode cX12_goWeek 262 = .ok (.iinc 1 1, 3) := by decide +kernel
theorem dX12_goWeek_265 : decode cX12_goWeek 265 = .ok (.goto (-26), 3) := by decide +kernel
theorem dX12_goWeek_144 : decode cX12_goWeek 144 = .ok (.iload_n 1, 1) := by decide +kernel
theorem dX12_goWeek_145 : decode cX12_goWeek 145 = .ok (.invokestatic 104, 3) := by decide +kernel
theorem dX12_goWeek_148 : decode cX12_goWeek 148 = .ok (.istore_n 2, 1) := by decide +kernel
theorem dX12_goWeek_149 : decode cX12_goWeek 149 = .ok (.aload_n 0, 1) := by decide +kernel
theorem dX12_goWeek_150 : decode cX12_goWeek 150 = .ok (.getfield 8, 3) := by decide +kernel
theorem dX12_goWeek_153 : decode cX12_goWeek 153 = .ok (.iload_n 2, 1) := by decide +kernel
theorem dX12_goWeek_154 : decode cX12_goWeek 154 = .ok (.bipush 7, 2) := by decide +kernel
theorem dX12_goWeek_156 : decode cX12_goWeek 156 = .ok (.iadd, 1) := by decide +kernel
theorem dX12_goWeek_157 : decode cX12_goWeek 157 = .ok (.iaload, 1) := by decide +kernel
theorem dX12_goWeek_158 : decode cX12_goWeek 158 = .ok (.iconst (-1), 1) := by decide +kernel
theorem dX12_goWeek_159 : decode cX12_goWeek 159 = .ok (.if_icmp .eq 72, 3) := by decide +kernel
theorem dX12_goWeek_231 : decode cX12_goWeek 231 = .ok (.iinc 1 1, 3) := by decide +kernel
theorem dX12_goWeek_234 : decode cX12_goWeek 234 = .ok (.goto (-100), 3) := by decide +kernel
theorem dX12_goWeek_162 : decode cX12_goWeek 162 = .ok (.aload_n 0, 1) := by decide +kernel
theorem dX12_goWeek_163 : decode cX12_goWeek 163 = .ok (.getfield 8, 3) := by decide +kernel
theorem dX12_goWeek_166 : decode cX12_goWeek 166 = .ok (.iload_n 2, 1) := by decide +kernel
theorem dX12_goWeek_167 : decode cX12_goWeek 167 = .ok (.iconst 5, 1) := by decide +kernel
theorem dX12_goWeek_168 : decode cX12_goWeek 168 = .ok (.iadd, 1) := by decide +kernel
theorem dX12_goWeek_169 : decode cX12_goWeek 169 = .ok (.iaload, 1) := by decide +kernel
theorem dX12_goWeek_170 : decode cX12_goWeek 170 = .ok (.iconst 1, 1) := by decide +kernel
theorem dX12_goWeek_171 : decode cX12_goWeek 171 = .ok (.if_icmp .ne 60, 3) := by decide +kernel
theorem dX12_goWeek_174 : decode cX12_goWeek 174 = .ok (.aload_n 0, 1) := by decide +kernel
theorem dX12_goWeek_175 : decode cX12_goWeek 175 = .ok (.iconst 3, 1) := by decide +kernel
theorem dX12_goWeek_176 : decode cX12_goWeek 176 = .ok (.iload_n 1, 1) := by decide +kernel
theorem dX12_goWeek_177 : decode cX12_goWeek 177 = .ok (.iconst (-1), 1) := by decide +kernel
theorem dX12_goWeek_178 : decode cX12_goWeek 178 = .ok (.invokevirtual 442, 3) := by decide +kernel
theorem dX12_goWeek_181 : decode cX12_goWeek 181 = .ok (.pop, 1) := by decide +kernel
theorem dX12_goWeek_182 : decode cX12_goWeek 182 = .ok (.aload_n 0, 1) := by decide +kernel
theorem dX12_goWeek_183 : decode cX12_goWeek 183 = .ok (.getfield 430, 3) := by decide +kernel
theorem dX12_goWeek_186 : decode cX12_goWeek 186 = .ok (.lconst 0, 1) := by decide +kernel
theorem dX12_goWeek_187 : decode cX12_goWeek 187 = .ok (.lcmp, 1) := by decide +kernel
theorem dX12_goWeek_188 : decode cX12_goWeek 188 = .ok (.ifCond .le 43, 3) := by decide +kernel
theorem dX12_goWeek_191 : decode cX12_goWeek 191 = .ok (.aload_n 0, 1) := by decide +kernel
theorem dX12_goWeek_192 : decode cX12_goWeek 192 = .ok (.getfield 430, 3) := by decide +kernel
theorem dX12_goWeek_195 : decode cX12_goWeek 195 = .ok (.aload_n 0, 1) := by decide +kernel
theorem dX12_goWeek_196 : decode cX12_goWeek 196 = .ok (.getfield 8, 3) := by decide +kernel
theorem dX12_goWeek_199 : decode cX12_goWeek 199 = .ok (.bipush 9, 2) := by decide +kernel
theorem dX12_goWeek_201 : decode cX12_goWeek 201 = .ok (.iaload, 1) := by decide +kernel
theorem dX12_goWeek_202 : decode cX12_goWeek 202 = .ok (.i2l, 1) := by decide +kernel
theorem dX12_goWeek_203 : decode cX12_goWeek 203 = .ok (.lcmp, 1) := by decide +kernel
theorem dX12_goWeek_204 : decode cX12_goWeek 204 = .ok (.ifCond .gt 27, 3) := by decide +kernel
theorem dX12_goWeek_207 : decode cX12_goWeek 207 = .ok (.aload_n 0, 1) := by decide +kernel
theorem dX12_goWeek_208 : decode cX12_goWeek 208 = .ok (.getfield 8, 3) := by decide +kernel
theorem dX12_goWeek_211 : decode cX12_goWeek 211 = .ok (.bipush 9, 2) := by decide +kernel
theorem dX12_goWeek_213 : decode cX12_goWeek 213 = .ok (.dup2, 1) := by decide +kernel
theorem dX12_goWeek_214 : decode cX12_goWeek 214 = .ok (.iaload, 1) := by decide +kernel
theorem dX12_goWeek_215 : decode cX12_goWeek 215 = .ok (.aload_n 0, 1) := by decide +kernel
theorem dX12_goWeek_216 : decode cX12_goWeek 216 = .ok (.getfield 430, 3) := by decide +kernel
theorem dX12_goWeek_219 : decode cX12_goWeek 219 = .ok (.l2i, 1) := by decide +kernel
theorem dX12_goWeek_220 : decode cX12_goWeek 220 = .ok (.isub, 1) := by decide +kernel
theorem dX12_goWeek_221 : decode cX12_goWeek 221 = .ok (.iastore, 1) := by decide +kernel
theorem dX12_goWeek_222 : decode cX12_goWeek 222 = .ok (.aload_n 0, 1) := by decide +kernel
theorem dX12_goWeek_223 : decode cX12_goWeek 223 = .ok (.iload_n 1, 1) := by decide +kernel
theorem dX12_goWeek_224 : decode cX12_goWeek 224 = .ok (.aload_n 0, 1) := by decide +kernel
theorem dX12_goWeek_225 : decode cX12_goWeek 225 = .ok (.getfield 430, 3) := by decide +kernel
theorem dX12_goWeek_228 : decode cX12_goWeek 228 = .ok (.invokevirtual 117, 3) := by decide +kernel
theorem dX12_goWeek_96 : decode cX12_goWeek 96 = .ok (.aload_n 0, 1) := by decide +kernel
theorem dX12_goWeek_97 : decode cX12_goWeek 97 = .ok (.getfield 8, 3) := by decide +kernel
theorem dX12_goWeek_100 : decode cX12_goWeek 100 = .ok (.sipush 684, 3) := by decide +kernel
theorem dX12_goWeek_103 : decode cX12_goWeek 103 = .ok (.bipush 6, 2) := by decide +kernel
theorem dX12_goWeek_105 : decode cX12_goWeek 105 = .ok (.iload_n 1, 1) := by decide +kernel
theorem dX12_goWeek_106 : decode cX12_goWeek 106 = .ok (.imul, 1) := by decide +kernel
theorem dX12_goWeek_107 : decode cX12_goWeek 107 = .ok (.iadd, 1) := by decide +kernel
theorem dX12_goWeek_108 : decode cX12_goWeek 108 = .ok (.iconst 5, 1) := by decide +kernel
theorem dX12_goWeek_109 : decode cX12_goWeek 109 = .ok (.iadd, 1) := by decide +kernel
theorem dX12_goWeek_110 : decode cX12_goWeek 110 = .ok (.iaload, 1) := by decide +kernel
theorem dX12_goWeek_111 : decode cX12_goWeek 111 = .ok (.ifCond .ne 15, 3) := by decide +kernel
theorem dX12_goWeek_126 : decode cX12_goWeek 126 = .ok (.iinc 1 1, 3) := by decide +kernel
theorem dX12_goWeek_129 : decode cX12_goWeek 129 = .ok (.goto (-43), 3) := by decide +kernel
theorem dX12_goWeek_114 : decode cX12_goWeek 114 = .ok (.aload_n 0, 1) := by decide +kernel
theorem dX12_goWeek_115 : decode cX12_goWeek 115 = .ok (.sipush 684, 3) := by decide +kernel
theorem dX12_goWeek_118 : decode cX12_goWeek 118 = .ok (.bipush 6, 2) := by decide +kernel
theorem dX12_goWeek_120 : decode cX12_goWeek 120 = .ok (.iload_n 1, 1) := by decide +kernel
theorem dX12_goWeek_121 : decode cX12_goWeek 121 = .ok (.imul, 1) := by decide +kernel
theorem dX12_goWeek_122 : decode cX12_goWeek 122 = .ok (.iadd, 1) := by decide +kernel
theorem dX12_goWeek_123 : decode cX12_goWeek 123 = .ok (.invokevirtual 476, 3) := by decide +kernel
theorem dX12_goWeek_21 : decode cX12_goWeek 21 = .ok (.aload_n 0, 1) := by decide +kernel
theorem dX12_goWeek_22 : decode cX12_goWeek 22 = .ok (.getfield 8, 3) := by decide +kernel
theorem dX12_goWeek_25 : decode cX12_goWeek 25 = .ok (.bipush 8, 2) := by decide +kernel
theorem dX12_goWeek_27 : decode cX12_goWeek 27 = .ok (.iaload, 1) := by decide +kernel
theorem dX12_goWeek_28 : decode cX12_goWeek 28 = .ok (.ifCond .le 56, 3) := by decide +kernel
theorem dX12_goWeek_31 : decode cX12_goWeek 31 = .ok (.aload_n 0, 1) := by decide +kernel
theorem dX12_goWeek_32 : decode cX12_goWeek 32 = .ok (.invokevirtual 467, 3) := by decide +kernel
theorem dX12_goWeek_35 : decode cX12_goWeek 35 = .ok (.iconst 0, 1) := by decide +kernel
theorem dX12_goWeek_36 : decode cX12_goWeek 36 = .ok (.istore_n 1, 1) := by decide +kernel
theorem dX12_goWeek_37 : decode cX12_goWeek 37 = .ok (.iload_n 1, 1) := by decide +kernel
theorem dX12_goWeek_38 : decode cX12_goWeek 38 = .ok (.aload_n 0, 1) := by decide +kernel
theorem dX12_goWeek_39 : decode cX12_goWeek 39 = .ok (.getfield 8, 3) := by decide +kernel
theorem dX12_goWeek_42 : decode cX12_goWeek 42 = .ok (.iconst 2, 1) := by decide +kernel
theorem dX12_goWeek_43 : decode cX12_goWeek 43 = .ok (.iaload, 1) := by decide +kernel
theorem dX12_goWeek_44 : decode cX12_goWeek 44 = .ok (.if_icmp .ge 40, 3) := by decide +kernel
theorem dX12_goWeek_47 : decode cX12_goWeek 47 = .ok (.aload_n 0, 1) := by decide +kernel
theorem dX12_goWeek_48 : decode cX12_goWeek 48 = .ok (.getfield 161, 3) := by decide +kernel
theorem dX12_goWeek_51 : decode cX12_goWeek 51 = .ok (.ifCond .eq 33, 3) := by decide +kernel
theorem dX12_goWeek_54 : decode cX12_goWeek 54 = .ok (.aload_n 0, 1) := by decide +kernel
theorem dX12_goWeek_55 : decode cX12_goWeek 55 = .ok (.iload_n 1, 1) := by decide +kernel
theorem dX12_goWeek_56 : decode cX12_goWeek 56 = .ok (.invokevirtual 470, 3) := by decide +kernel
theorem dX12_goWeek_59 : decode cX12_goWeek 59 = .ok (.ifCond .eq 19, 3) := by decide +kernel
theorem dX12_goWeek_78 : decode cX12_goWeek 78 = .ok (.iinc 1 1, 3) := by decide +kernel
theorem dX12_goWeek_81 : decode cX12_goWeek 81 = .ok (.goto (-44), 3) := by decide +kernel
theorem dX12_goWeek_62 : decode cX12_goWeek 62 = .ok (.aload_n 0, 1) := by decide +kernel
theorem dX12_goWeek_63 : decode cX12_goWeek 63 = .ok (.getfield 8, 3) := by decide +kernel
theorem dX12_goWeek_66 : decode cX12_goWeek 66 = .ok (.iconst 4, 1) := by decide +kernel
theorem dX12_goWeek_67 : decode cX12_goWeek 67 = .ok (.iaload, 1) := by decide +kernel
theorem dX12_goWeek_68 : decode cX12_goWeek 68 = .ok (.bipush 60, 2) := by decide +kernel
theorem dX12_goWeek_70 : decode cX12_goWeek 70 = .ok (.if_icmp .ge 8, 3) := by decide +kernel
theorem dX12_goWeek_73 : decode cX12_goWeek 73 = .ok (.aload_n 0, 1) := by decide +kernel
theorem dX12_goWeek_74 : decode cX12_goWeek 74 = .ok (.iload_n 1, 1) := by decide +kernel
theorem dX12_goWeek_75 : decode cX12_goWeek 75 = .ok (.invokevirtual 473, 3) := by decide +kernel
theorem dX12_go_0 : decode cX12_go 0 = .ok (.aload_n 0, 1) := by decide +kernel
theorem dX12_go_1 : decode cX12_go 1 = .ok (.iconst 0, 1) := by decide +kernel
theorem dX12_go_2 : decode cX12_go 2 = .ok (.putfield 82, 3) := by decide +kernel
theorem dX12_go_5 : decode cX12_go 5 = .ok (.iload_n 1, 1) := by decide +kernel
theorem dX12_go_6 : decode cX12_go 6 = .ok (.i2l, 1) := by decide +kernel
theorem dX12_go_7 : decode cX12_go 7 = .ok (.lconst 1, 1) := by decide +kernel
theorem dX12_go_8 : decode cX12_go 8 = .ok (.ldc2_w 479, 3) := by decide +kernel
theorem dX12_go_11 : decode cX12_go 11 = .ok (.invokestatic 90, 3) := by decide +kernel
theorem dX12_go_14 : decode cX12_go 14 = .ok (.ifCond .eq 18, 3) := by decide +kernel
theorem dX12_go_32 : decode cX12_go 32 = .ok (.aload_n 0, 1) := by decide +kernel
theorem dX12_go_33 : decode cX12_go 33 = .ok (.iconst (-1), 1) := by decide +kernel
theorem dX12_go_34 : decode cX12_go 34 = .ok (.invokevirtual 94, 3) := by decide +kernel
theorem dX12_go_37 : decode cX12_go 37 = .ok (.ireturn, 1) := by decide +kernel
theorem dX12_go_17 : decode cX12_go 17 = .ok (.aload_n 0, 1) := by decide +kernel
theorem dX12_go_18 : decode cX12_go 18 = .ok (.getfield 8, 3) := by decide +kernel
theorem dX12_go_21 : decode cX12_go 21 = .ok (.bipush 8, 2) := by decide +kernel
theorem dX12_go_23 : decode cX12_go 23 = .ok (.iaload, 1) := by decide +kernel
theorem dX12_go_24 : decode cX12_go 24 = .ok (.iload_n 1, 1) := by decide +kernel
theorem dX12_go_25 : decode cX12_go 25 = .ok (.iadd, 1) := by decide +kernel
theorem dX12_go_26 : decode cX12_go 26 = .ok (.sipush 399, 3) := by decide +kernel
theorem dX12_go_29 : decode cX12_go 29 = .ok (.if_icmp .le 9, 3) := by decide +kernel
theorem dX12_go_38 : decode cX12_go 38 = .ok (.iconst 0, 1) := by decide +kernel
theorem dX12_go_39 : decode cX12_go 39 = .ok (.istore_n 2, 1) := by decide +kernel
theorem dX12_go_40 : decode cX12_go 40 = .ok (.iload_n 2, 1) := by decide +kernel
theorem dX12_go_41 : decode cX12_go 41 = .ok (.iload_n 1, 1) := by decide +kernel
theorem dX12_go_42 : decode cX12_go 42 = .ok (.if_icmp .ge 13, 3) := by decide +kernel
theorem dX12_go_55 : decode cX12_go 55 = .ok (.aload_n 0, 1) := by decide +kernel
theorem dX12_go_56 : decode cX12_go 56 = .ok (.aload_n 0, 1) := by decide +kernel
theorem dX12_go_57 : decode cX12_go 57 = .ok (.getfield 8, 3) := by decide +kernel
theorem dX12_go_60 : decode cX12_go 60 = .ok (.bipush 8, 2) := by decide +kernel
theorem dX12_go_62 : decode cX12_go 62 = .ok (.iaload, 1) := by decide +kernel
theorem dX12_go_63 : decode cX12_go 63 = .ok (.invokevirtual 94, 3) := by decide +kernel
theorem dX12_go_66 : decode cX12_go 66 = .ok (.ireturn, 1) := by decide +kernel
theorem dX12_go_45 : decode cX12_go 45 = .ok (.aload_n 0, 1) := by decide +kernel
theorem dX12_go_46 : decode cX12_go 46 = .ok (.invokevirtual 481, 3) := by decide +kernel
theorem dX12_go_49 : decode cX12_go 49 = .ok (.iinc 2 1, 3) := by decide +kernel
theorem dX12_go_52 : decode cX12_go 52 = .ok (.goto (-12), 3) := by decide +kernel
def ms_X12_isIn : List (Nat × Nat) := []
def po_X12_isIn (kp : Nat → Nat) (L : List Nat) (f0 : Nat → va_E) (h0 : Nat) (u1 : Int32) (u2 : Int32) : Option Value → (Nat → va_E) → Prop := fun v f => (∃ r : Int32, v = some (.int r) ∧ ((0 : Int) ≤ r.toInt ∧ r.toInt ≤ 1)) ∧ FM kp L ms_X12_isIn f0 f
set_option maxHeartbeats 4000000 in
set_option maxRecDepth 100000 in
theorem c_X12_isIn (l : Launch) (G : va_G) (cI cJ cZ cD cR cT : ClassId) (kp : Nat → Nat) (L : List Nat) (f0 : Nat → va_E) (hTH : TH cI cJ cZ cD cR cT kp L f0) (sz : Nat) (h0 : Nat) (u1 : Int32) (u2 : Int32) (rh0 : RK kp L h0 12) (pu1 : (0 : Int) ≤ u1.toInt ∧ u1.toInt ≤ 19) (pu2 : (0 : Int) ≤ u2.toInt ∧ u2.toInt ≤ 11) : Met l yX12_isIn (Cond.code yX12_isIn cX12_isIn 3 (some .boolean) :: wTab) ({ frames := 1, cells := 0, slots := 0, locals := 40 }) (va_Pc [.ref h0, .int u1, .int u2] (PreW G (tys6 cI cJ cZ cD cR cT) (va_pl L f0) sz)) (QT (po_X12_isIn kp L f0 h0 u1 u2) G cI cJ cZ cD cR cT (va_A (va_pl L f0) sz) kp L) 0 0 (va_A (va_pl L f0) sz) := by
  refine metT (by decide) (Nat.le_of_ble_eq_true rfl) hTH ?_
  intro p e s m below meth c A ls E hW hl
  obtain ⟨hx, hb, -, hml, hown, hts, -, -, -⟩ := id E
  have hF : FM kp L ms_X12_isIn f0 f0 := FM.rf
  have hl : lv_has ls 3 [(0, .ref h0), (1, .int u1), (2, .int u2)] := hl
  obtain ⟨pR, mR⟩ : ∃ x : Nat, oR (f0 h0) 2 = x := ⟨_, rfl⟩
  have rR : RK kp L pR 822 := by rw [← mR]; exact th_ref hTH rh0 (by decide) (by decide) rfl
  refine lv_aload_n hx hb dX12_isIn_0 rfl (lv_at hl 0 rfl) ?_
  refine fg_RX12_54 E hW rh0 dX12_isIn_1 (fun a1 m2 r3 => ?_)
  refine lv_iload_n hx hb dX12_isIn_4 rfl (lv_at hl 1 rfl) ?_
  refine gl_849 E hW r3 ⟨by omega, by omega⟩ dX12_isIn_5 (fun y4 m5 b6 => ?_)
  have J20 : ∀ (y18 : Int32) (b19 : (0 : Int) ≤ y18.toInt ∧ y18.toInt ≤ 1) (H : Heap) (locs : List Loc) (ls : Array Slot), WS G cI cJ cZ cD cR cT A kp L f0 s H locs → FM kp L ms_X12_isIn f0 f0 → lv_has ls 3 [(0, .ref h0), (1, .int u1), (2, .int u2)] → W p l e ({ frames := 1, cells := 0, slots := 0, locals := 40 }) s m ([.ref h0, .int u1, .int u2] : List Value).toArray below meth c H locs 0 0 (MQ below (QT (po_X12_isIn kp L f0 h0 u1 u2) G cI cJ cZ cD cR cT A kp L) ([.ref h0, .int u1, .int u2] : List Value).toArray s 0 0 A) (F0 m 28 ls [.int y18]) := by
    intro y18 b19 H locs ls hW hF hl
    exact e_Z E hW rfl (by omega) ⟨⟨_, rfl, (by first | omega | trivial)⟩, hF⟩ dX12_isIn_28
  refine q_if_eq (tgt := 27) hx hb dX12_isIn_6 (by decide) rfl (fun c21 => ?_) (fun c21 => ?_)
  · refine lv_iconst (v := 0) hx hb dX12_isIn_27 (by decide) ?_
    exact J20 0 (by decide) _ _ _ hW hF (lv_sub hl [0, 1, 2] rfl)
  · refine lv_aload_n hx hb dX12_isIn_9 rfl (lv_at hl 0 rfl) ?_
    refine fg_RX12_57 E hW rh0 dX12_isIn_10 (fun a22 m23 r24 => ?_)
    refine lv_bipush (v := 12) hx hb dX12_isIn_13 (by decide) ?_
    refine lv_iload_n hx hb dX12_isIn_15 rfl (lv_at hl 1 rfl) ?_
    refine q_imul (X := 12) hx hb dX12_isIn_16 rfl rfl (by omega) (fun x25 h26 => ?_)
    refine lv_iload_n hx hb dX12_isIn_17 rfl (lv_at hl 2 rfl) ?_
    refine q_iadd hx hb dX12_isIn_18 rfl rfl (by omega) (fun x27 h28 => ?_)
    refine gl_850 E hW r24 ⟨by omega, by omega⟩ dX12_isIn_19 (fun y29 m30 b31 => ?_)
    refine q_if_ne (tgt := 27) hx hb dX12_isIn_20 (by decide) rfl (fun c32 => ?_) (fun c32 => ?_)
    · refine lv_iconst (v := 0) hx hb dX12_isIn_27 (by decide) ?_
      exact J20 0 (by decide) _ _ _ hW hF (lv_sub hl [0, 1, 2] rfl)
    · refine lv_iconst (v := 1) hx hb dX12_isIn_23 (by decide) ?_
      refine lv_goto (tgt := 28) hx hb dX12_isIn_24 (by decide) ?_
      exact J20 1 (by decide) _ _ _ hW hF (lv_sub hl [0, 1, 2] rfl)
def ms_X12_findForce : List (Nat × Nat) := [(849, 0), (850, 0)]
def po_X12_findForce (kp : Nat → Nat) (L : List Nat) (f0 : Nat → va_E) (h0 : Nat) (u1 : Int32) : Option Value → (Nat → va_E) → Prop := fun v f => v = none ∧ FM kp L ms_X12_findForce f0 f
set_option maxHeartbeats 4000000 in
set_option maxRecDepth 100000 in
theorem c_X12_findForce (l : Launch) (G : va_G) (cI cJ cZ cD cR cT : ClassId) (kp : Nat → Nat) (L : List Nat) (f0 : Nat → va_E) (hTH : TH cI cJ cZ cD cR cT kp L f0) (sz : Nat) (h0 : Nat) (u1 : Int32) (rh0 : RK kp L h0 12) (pu1 : (0 : Int) ≤ u1.toInt ∧ u1.toInt ≤ 399) (hTX : TX (aI (f0 (oR (f0 h0) 2)))) : Met l yX12_findForce (Cond.code yX12_findForce cX12_findForce 5 none :: wTab) ({ frames := 3, cells := 0, slots := 0, locals := 81 }) (va_Pc [.ref h0, .int u1] (PreW G (tys6 cI cJ cZ cD cR cT) (va_pl L f0) sz)) (QT (po_X12_findForce kp L f0 h0 u1) G cI cJ cZ cD cR cT (va_A (va_pl L f0) sz) kp L) 0 0 (va_A (va_pl L f0) sz) := by
  refine metT (by decide) (Nat.le_of_ble_eq_true rfl) hTH ?_
  intro p e s m below meth c A ls E hW hl
  obtain ⟨hx, hb, -, hml, hown, hts, -, -, -⟩ := id E
  have hF : FM kp L ms_X12_findForce f0 f0 := FM.rf
  have hl : lv_has ls 5 [(0, .ref h0), (1, .int u1)] := hl
  obtain ⟨pR, mR⟩ : ∃ x : Nat, oR (f0 h0) 2 = x := ⟨_, rfl⟩
  have rR : RK kp L pR 822 := by rw [← mR]; exact th_ref hTH rh0 (by decide) (by decide) rfl
  rw [mR] at hTX
  refine lv_iconst (v := 0) hx hb dX12_findForce_0 (by decide) ?_
  refine lv_istore_n (lv' := [(2, .int 0), (0, .ref h0), (1, .int u1)]) hx hb dX12_findForce_1 rfl hl (by decide) rfl (fun ls hl => ?_)
  have L565 : ∀ (n : Nat), ∀ (f561 : Nat → va_E) (y563 : Int32) (m562 : oR (f561 h0) 2 = pR) (b564 : (0 : Int) ≤ y563.toInt ∧ y563.toInt ≤ 240) (hm : (241 : Int) - y563.toInt ≤ n) (H : Heap) (locs : List Loc) (ls : Array Slot), WS G cI cJ cZ cD cR cT A kp L f561 s H locs → FM kp L ms_X12_findForce f0 f561 → lv_has ls 5 [(2, .int y563), (0, .ref h0), (1, .int u1)] → W p l e ({ frames := 3, cells := 0, slots := 0, locals := 81 }) s m ([.ref h0, .int u1] : List Value).toArray below meth c H locs 0 0 (MQ below (QT (po_X12_findForce kp L f0 h0 u1) G cI cJ cZ cD cR cT A kp L) ([.ref h0, .int u1] : List Value).toArray s 0 0 A) (F0 m 2 ls []) := by
    intro n
    induction n with
    | zero =>
      intro f561 y563 m562 b564 hm H locs ls hW hF hl
      have hz := i32_b y563
      exfalso; omega
    | succ n ih =>
      intro f561 y563 m562 b564 hm H locs ls hW hF hl
      have ih2 := ih
      refine lv_iload_n hx hb dX12_findForce_2 rfl (lv_at hl 0 rfl) ?_
      refine lv_sipush (v := 240) hx hb dX12_findForce_3 (by decide) ?_
      refine q_icmp_ge (Y := 240) (tgt := 22) hx hb dX12_findForce_6 (by decide) rfl rfl (fun c575 => ?_) (fun c575 => ?_)
      · refine lv_aload_n hx hb dX12_findForce_22 rfl (lv_at hl 1 rfl) ?_
        refine fg_RX12_8 E hW rh0 dX12_findForce_23 (fun a576 m577 r578 => ?_)
        obtain rfl : pR = a576 := (m562).symm.trans m577
        refine lv_iconst (v := 3) hx hb dX12_findForce_26 (by decide) ?_
        refine gl_822 E hW rR (by decide) dX12_findForce_27 (fun y579 m580 b581 => ?_)
        have b582 := rr_3 (show RowInv _ from b581) m580 (by decide)
        refine lv_iconst (v := 1) hx hb dX12_findForce_28 (by decide) ?_
        refine q_isub (Y := 1) hx hb dX12_findForce_29 rfl rfl (by omega) (fun x583 h584 => ?_)
        refine lv_istore_n (lv' := [(2, .int x583), (0, .ref h0), (1, .int u1)]) hx hb dX12_findForce_30 rfl hl (by decide) rfl (fun ls hl => ?_)
        have L2733 : ∀ (n : Nat), ∀ (f2727 : Nat → va_E) (y2730 : Int32) (m2728 : oR (f2727 h0) 2 = pR) (m2729 : aI (f2727 pR) (3 : Int32).toNatClampNeg = y579) (b2731 : (-1 : Int) ≤ y2730.toInt ∧ y2730.toInt ≤ 19) (v2732 : y2730.toInt < y579.toInt) (hm : y2730.toInt - (-2 : Int) ≤ n) (H : Heap) (locs : List Loc) (ls : Array Slot), WS G cI cJ cZ cD cR cT A kp L f2727 s H locs → FM kp L ms_X12_findForce f0 f2727 → lv_has ls 5 [(2, .int y2730), (0, .ref h0), (1, .int u1)] → W p l e ({ frames := 3, cells := 0, slots := 0, locals := 81 }) s m ([.ref h0, .int u1] : List Value).toArray below meth c H locs 0 0 (MQ below (QT (po_X12_findForce kp L f0 h0 u1) G cI cJ cZ cD cR cT A kp L) ([.ref h0, .int u1] : List Value).toArray s 0 0 A) (F0 m 31 ls []) := by
          intro n
          induction n with
          | zero =>
            intro f2727 y2730 m2728 m2729 b2731 v2732 hm H locs ls hW hF hl
            have hz := i32_b y2730
            exfalso; omega
          | succ n ih =>
            intro f2727 y2730 m2728 m2729 b2731 v2732 hm H locs ls hW hF hl
            have ih31 := ih
            refine lv_iload_n hx hb dX12_findForce_31 rfl (lv_at hl 0 rfl) ?_
            refine q_if_lt (tgt := 169) hx hb dX12_findForce_32 (by decide) rfl (fun c4869 => ?_) (fun c4869 => ?_)
            · exact e_V E hW rfl ⟨rfl, hF⟩ dX12_findForce_169
            · refine lv_aload_n hx hb dX12_findForce_35 rfl (lv_at hl 1 rfl) ?_
              refine fg_RX12_54 E hW rh0 dX12_findForce_36 (fun a4870 m4871 r4872 => ?_)
              refine lv_iload_n hx hb dX12_findForce_39 rfl (lv_at hl 0 rfl) ?_
              refine lv_aload_n hx hb dX12_findForce_40 rfl (lv_at hl 1 rfl) ?_
              refine fg_RX12_8 E hW rh0 dX12_findForce_41 (fun a4873 m4874 r4875 => ?_)
              obtain rfl : pR = a4873 := (m2728).symm.trans m4874
              refine lv_iload_n hx hb dX12_findForce_44 rfl (lv_at hl 0 rfl) ?_
              refine t_callS (As := [.int y2730]) (rest := [.ref pR, .int y2730, .ref a4870]) E hW (c_X12_textAt l G cI cJ cZ cD cR cT kp L f2727 hW.2.2.2 _ y2730 (by omega)) wk_X12_textAt tw_1655 rfl ⟨Nat.le_of_ble_eq_true rfl, Nat.le_of_ble_eq_true rfl⟩ ⟨rfl, rfl⟩ hl.1 rfl (Nat.le_of_ble_eq_true rfl) dX12_findForce_45 ⟨Nat.le_of_ble_eq_true rfl, Nat.le_of_ble_eq_true rfl⟩ (fun v4876 f4877 H locs q4878 hW => ?_)
              obtain ⟨⟨x4880, rfl, p4881⟩, g4879⟩ := q4878
              have hF := FM.tr hF g4879 rfl
              refine gl_822 E hW rR ⟨by omega, by omega⟩ dX12_findForce_48 (fun y4882 m4883 b4884 => ?_)
              refine lv_iload_n hx hb dX12_findForce_49 rfl (lv_at hl 2 rfl) ?_
              have J4889 : ∀ (y4886 : Int32) (b4887 : (0 : Int) ≤ y4886.toInt ∧ y4886.toInt ≤ 1) (v4888 : y2730.toInt < y579.toInt) (H : Heap) (locs : List Loc) (ls : Array Slot), WS G cI cJ cZ cD cR cT A kp L f4877 s H locs → FM kp L ms_X12_findForce f0 f4877 → lv_has ls 5 [(2, .int y2730), (0, .ref h0), (1, .int u1)] → W p l e ({ frames := 3, cells := 0, slots := 0, locals := 81 }) s m ([.ref h0, .int u1] : List Value).toArray below meth c H locs 0 0 (MQ below (QT (po_X12_findForce kp L f0 h0 u1) G cI cJ cZ cD cR cT A kp L) ([.ref h0, .int u1] : List Value).toArray s 0 0 A) (F0 m 58 ls [.int y4886, .int y2730, .ref a4870]) := by
                intro y4886 b4887 v4888 H locs ls hW hF hl
                refine gs_849 E hW r4872 ⟨by omega, by omega⟩ (by omega) dX12_findForce_58 (fun f4890 H locs e4891 n4892 g4893 hW => ?_)
                have m4894 : aI (f4890 pR) (3 : Int32).toNatClampNeg = y579 := ((congrArg (fun z => aI z (3 : Int32).toNatClampNeg) (fm_A g4893 rR (by decide) rfl)).trans ((congrArg (fun z => aI z (3 : Int32).toNatClampNeg) (fm_A g4879 rR (by decide) rfl)).trans m2729))
                have hF := FM.tr hF g4893 rfl
                refine lv_iconst (v := 0) hx hb dX12_findForce_59 (by decide) ?_
                refine lv_istore_n (lv' := [(3, .int 0), (2, .int y2730), (0, .ref h0), (1, .int u1)]) hx hb dX12_findForce_60 rfl hl (by decide) rfl (fun ls hl => ?_)
                have L6726 : ∀ (n : Nat), ∀ (f6719 : Nat → va_E) (y6723 : Int32) (m6720 : oR (f6719 h0) 2 = pR) (m6721 : oR (f6719 h0) 29 = a4870) (m6722 : aI (f6719 pR) (3 : Int32).toNatClampNeg = y579) (b6724 : (0 : Int) ≤ y6723.toInt ∧ y6723.toInt ≤ 12) (v6725 : y2730.toInt < y579.toInt) (hm : (13 : Int) - y6723.toInt ≤ n) (H : Heap) (locs : List Loc) (ls : Array Slot), WS G cI cJ cZ cD cR cT A kp L f6719 s H locs → FM kp L ms_X12_findForce f0 f6719 → lv_has ls 5 [(3, .int y6723), (2, .int y2730), (0, .ref h0), (1, .int u1)] → W p l e ({ frames := 3, cells := 0, slots := 0, locals := 81 }) s m ([.ref h0, .int u1] : List Value).toArray below meth c H locs 0 0 (MQ below (QT (po_X12_findForce kp L f0 h0 u1) G cI cJ cZ cD cR cT A kp L) ([.ref h0, .int u1] : List Value).toArray s 0 0 A) (F0 m 61 ls []) := by
                  intro n
                  induction n with
                  | zero =>
                    intro f6719 y6723 m6720 m6721 m6722 b6724 v6725 hm H locs ls hW hF hl
                    have hz := i32_b y6723
                    exfalso; omega
                  | succ n ih =>
                    intro f6719 y6723 m6720 m6721 m6722 b6724 v6725 hm H locs ls hW hF hl
                    clear b4887
                    have ih61 := ih
                    refine lv_iload_n hx hb dX12_findForce_61 rfl (lv_at hl 0 rfl) ?_
                    refine lv_aload_n hx hb dX12_findForce_62 rfl (lv_at hl 2 rfl) ?_
                    refine fg_RX12_8 E hW rh0 dX12_findForce_63 (fun a6727 m6728 r6729 => ?_)
                    obtain rfl : pR = a6727 := (m6720).symm.trans m6728
                    refine lv_iload_n hx hb dX12_findForce_66 rfl (lv_at hl 1 rfl) ?_
                    refine t_callS (As := [.int y2730]) (rest := [.ref pR, .int y6723]) E hW (c_X12_textAt l G cI cJ cZ cD cR cT kp L f6719 hW.2.2.2 _ y2730 (by omega)) wk_X12_textAt tw_1655 rfl ⟨Nat.le_of_ble_eq_true rfl, Nat.le_of_ble_eq_true rfl⟩ ⟨rfl, rfl⟩ hl.1 rfl (Nat.le_of_ble_eq_true rfl) dX12_findForce_67 ⟨Nat.le_of_ble_eq_true rfl, Nat.le_of_ble_eq_true rfl⟩ (fun v6730 f6731 H locs q6732 hW => ?_)
                    obtain ⟨⟨x6734, rfl, p6735⟩, g6733⟩ := q6732
                    have hF := FM.tr hF g6733 rfl
                    refine lv_iconst (v := 1) hx hb dX12_findForce_70 (by decide) ?_
                    refine q_iadd (Y := 1) hx hb dX12_findForce_71 rfl rfl (by omega) (fun x6736 h6737 => ?_)
                    refine gl_822 E hW rR ⟨by omega, by omega⟩ dX12_findForce_72 (fun y6738 m6739 b6740 => ?_)
                    have b6741 := tx_n (t := y2730) (by rw [fm_A hF rR (by decide) rfl]; exact hTX) (by omega) (by have z : aI (f6731 pR) 3 = y579 := ((congrArg (fun z => aI z (3 : Int32).toNatClampNeg) (fm_A g6733 rR (by decide) rfl)).trans m6722); rw [z]; omega) m6739 (by omega)
                    have J6872 : ∀ (v6871 : y2730.toInt < y579.toInt) (H : Heap) (locs : List Loc) (ls : Array Slot), WS G cI cJ cZ cD cR cT A kp L f6731 s H locs → FM kp L ms_X12_findForce f0 f6731 → lv_has ls 5 [(3, .int y6723), (2, .int y2730), (0, .ref h0), (1, .int u1)] → W p l e ({ frames := 3, cells := 0, slots := 0, locals := 81 }) s m ([.ref h0, .int u1] : List Value).toArray below meth c H locs 0 0 (MQ below (QT (po_X12_findForce kp L f0 h0 u1) G cI cJ cZ cD cR cT A kp L) ([.ref h0, .int u1] : List Value).toArray s 0 0 A) (F0 m 163 ls []) := by
                      intro  v6871 H locs ls hW hF hl
                      refine q_iinc hx hb dX12_findForce_163 hl (k := 1) rfl rfl rfl (by omega) (by decide) (fun i6873 ls h6874 hl => ?_)
                      have hl : lv_has ls 5 [(2, .int i6873), (3, .int y6723), (0, .ref h0), (1, .int u1)] := hl
                      refine lv_goto (tgt := 31) hx hb dX12_findForce_166 (by decide) ?_
                      exact ih31 f6731 i6873 ((fm_R g6733 rh0 rfl).trans m6728) ((congrArg (fun z => aI z (3 : Int32).toNatClampNeg) (fm_A g6733 rR (by decide) rfl)).trans m6722) (by omega) (by omega) (by omega) _ _ _ hW hF (lv_sub hl [0, 2, 3] rfl)
                    refine q_icmp_ge (tgt := 163) hx hb dX12_findForce_73 (by decide) rfl rfl (fun c6875 => ?_) (fun c6875 => ?_)
                    · exact J6872  (by omega) _ _ _ hW hF (lv_sub hl [0, 1, 2, 3] rfl)
                    · refine lv_aload_n hx hb dX12_findForce_76 rfl (lv_at hl 2 rfl) ?_
                      refine fg_RX12_54 E hW rh0 dX12_findForce_77 (fun a6876 m6877 r6878 => ?_)
                      obtain rfl : a4870 = a6876 := (((fm_R g6733 rh0 rfl).trans m6721)).symm.trans m6877
                      refine lv_iload_n hx hb dX12_findForce_80 rfl (lv_at hl 1 rfl) ?_
                      refine gl_849 E hW r4872 ⟨by omega, by omega⟩ dX12_findForce_81 (fun y6879 m6880 b6881 => ?_)
                      refine q_if_eq (tgt := 163) hx hb dX12_findForce_82 (by decide) rfl (fun c6882 => ?_) (fun c6882 => ?_)
                      · exact J6872  (by omega) _ _ _ hW hF (lv_sub hl [0, 1, 2, 3] rfl)
                      · refine lv_iload_n hx hb dX12_findForce_85 rfl (lv_at hl 1 rfl) ?_
                        refine lv_iload_n hx hb dX12_findForce_86 rfl (lv_at hl 0 rfl) ?_
                        refine t_callS (As := [.int y2730, .int y6723]) (rest := []) E hW (c_X12_clauseAt l G cI cJ cZ cD cR cT kp L f6731 hW.2.2.2 _ y2730 y6723 (by omega) (by omega)) wk_X12_clauseAt tw_1658 rfl ⟨Nat.le_of_ble_eq_true rfl, Nat.le_of_ble_eq_true rfl⟩ ⟨rfl, rfl⟩ hl.1 rfl (Nat.le_of_ble_eq_true rfl) dX12_findForce_87 ⟨Nat.le_of_ble_eq_true rfl, Nat.le_of_ble_eq_true rfl⟩ (fun v6883 f6884 H locs q6885 hW => ?_)
                        obtain ⟨⟨x6887, rfl, p6888⟩, g6886⟩ := q6885
                        have m6889 : aI (f6884 pR) (3 : Int32).toNatClampNeg = y579 := ((congrArg (fun z => aI z (3 : Int32).toNatClampNeg) (fm_A g6886 rR (by decide) rfl)).trans ((congrArg (fun z => aI z (3 : Int32).toNatClampNeg) (fm_A g6733 rR (by decide) rfl)).trans m6722))
                        have hF := FM.tr hF g6886 rfl
                        refine lv_istore (lv' := [(4, .int x6887), (3, .int y6723), (2, .int y2730), (0, .ref h0), (1, .int u1)]) hx hb dX12_findForce_90 hl (by decide) rfl (fun ls hl => ?_)
                        refine lv_aload_n hx hb dX12_findForce_92 rfl (lv_at hl 3 rfl) ?_
                        refine fg_RX12_8 E hW rh0 dX12_findForce_93 (fun a6890 m6891 r6892 => ?_)
                        obtain rfl : pR = a6890 := (((fm_R g6886 rh0 rfl).trans ((fm_R g6733 rh0 rfl).trans m6728))).symm.trans m6891
                        refine lv_iload hx hb dX12_findForce_96 (lv_at hl 0 rfl) ?_
                        refine gl_822 E hW rR ⟨by omega, by omega⟩ dX12_findForce_98 (fun y6893 m6894 b6895 => ?_)
                        have J6952 : ∀ (f6947 : Nat → va_E) (m6948 : oR (f6947 h0) 2 = pR) (m6949 : oR (f6947 h0) 29 = a4870) (m6950 : aI (f6947 pR) (3 : Int32).toNatClampNeg = y579) (v6951 : y2730.toInt < y579.toInt) (H : Heap) (locs : List Loc) (ls : Array Slot), WS G cI cJ cZ cD cR cT A kp L f6947 s H locs → FM kp L ms_X12_findForce f0 f6947 → lv_has ls 5 [(4, .int x6887), (3, .int y6723), (2, .int y2730), (0, .ref h0), (1, .int u1)] → W p l e ({ frames := 3, cells := 0, slots := 0, locals := 81 }) s m ([.ref h0, .int u1] : List Value).toArray below meth c H locs 0 0 (MQ below (QT (po_X12_findForce kp L f0 h0 u1) G cI cJ cZ cD cR cT A kp L) ([.ref h0, .int u1] : List Value).toArray s 0 0 A) (F0 m 157 ls []) := by
                          intro f6947 m6948 m6949 m6950 v6951 H locs ls hW hF hl
                          clear b6881 c6882
                          refine q_iinc hx hb dX12_findForce_157 hl (k := 1) rfl rfl rfl (by omega) (by decide) (fun i6953 ls h6954 hl => ?_)
                          have hl : lv_has ls 5 [(3, .int i6953), (4, .int x6887), (2, .int y2730), (0, .ref h0), (1, .int u1)] := hl
                          refine lv_goto (tgt := 61) hx hb dX12_findForce_160 (by decide) ?_
                          exact ih61 f6947 i6953 m6948 m6949 m6950 (by omega) (by omega) (by omega) _ _ _ hW hF (lv_sub hl [0, 2, 3, 4] rfl)
                        refine q_if_ne (tgt := 157) hx hb dX12_findForce_99 (by decide) rfl (fun c6955 => ?_) (fun c6955 => ?_)
                        · exact J6952 f6884 m6891 ((fm_R g6886 rh0 rfl).trans m6877) m6889 (by omega) _ _ _ hW hF (lv_sub hl [0, 1, 2, 3, 4] rfl)
                        · refine lv_aload_n hx hb dX12_findForce_102 rfl (lv_at hl 3 rfl) ?_
                          refine fg_RX12_57 E hW rh0 dX12_findForce_103 (fun a6956 m6957 r6958 => ?_)
                          refine lv_bipush (v := 12) hx hb dX12_findForce_106 (by decide) ?_
                          refine lv_iload_n hx hb dX12_findForce_108 rfl (lv_at hl 2 rfl) ?_
                          refine q_imul (X := 12) hx hb dX12_findForce_109 rfl rfl (by omega) (fun x6959 h6960 => ?_)
                          refine lv_iload_n hx hb dX12_findForce_110 rfl (lv_at hl 1 rfl) ?_
                          refine q_iadd hx hb dX12_findForce_111 rfl rfl (by omega) (fun x6961 h6962 => ?_)
                          refine gl_850 E hW r6958 ⟨by omega, by omega⟩ dX12_findForce_112 (fun y6963 m6964 b6965 => ?_)
                          refine q_if_ne (tgt := 157) hx hb dX12_findForce_113 (by decide) rfl (fun c6966 => ?_) (fun c6966 => ?_)
                          · exact J6952 f6884 m6891 ((fm_R g6886 rh0 rfl).trans m6877) m6889 (by omega) _ _ _ hW hF (lv_sub hl [0, 1, 2, 3, 4] rfl)
                          · refine lv_aload_n hx hb dX12_findForce_116 rfl (lv_at hl 3 rfl) ?_
                            refine fg_RX12_8 E hW rh0 dX12_findForce_117 (fun a6967 m6968 r6969 => ?_)
                            obtain rfl : pR = a6967 := (m6891).symm.trans m6968
                            refine lv_iload hx hb dX12_findForce_120 (lv_at hl 0 rfl) ?_
                            refine lv_iconst (v := 1) hx hb dX12_findForce_122 (by decide) ?_
                            refine q_iadd (Y := 1) hx hb dX12_findForce_123 rfl rfl (by omega) (fun x6970 h6971 => ?_)
                            refine gl_822 E hW rR ⟨by omega, by omega⟩ dX12_findForce_124 (fun y6972 m6973 b6974 => ?_)
                            have b6975 := tx_s (t := y2730) (c := y6723) (by rw [fm_A hF rR (by decide) rfl]; exact hTX) (by omega) (by have z : aI (f6884 pR) 3 = y579 := m6889; rw [z]; omega) ((congrArg (fun z => aI z (x6736 : Int32).toNatClampNeg) (fm_A g6886 rR (by decide) rfl)).trans m6739) (by omega) ⟨by omega, by omega⟩ m6894 (by omega) (by omega) m6973 (by omega)
                            refine lv_iload_n hx hb dX12_findForce_125 rfl (lv_at hl 2 rfl) ?_
                            refine q_icmp_ge (tgt := 157) hx hb dX12_findForce_126 (by decide) rfl rfl (fun c6976 => ?_) (fun c6976 => ?_)
                            · exact J6952 f6884 m6968 ((fm_R g6886 rh0 rfl).trans m6877) m6889 (by omega) _ _ _ hW hF (lv_sub hl [0, 1, 2, 3, 4] rfl)
                            · refine lv_aload_n hx hb dX12_findForce_129 rfl (lv_at hl 3 rfl) ?_
                              refine fg_RX12_57 E hW rh0 dX12_findForce_130 (fun a6977 m6978 r6979 => ?_)
                              obtain rfl : a6956 = a6977 := (m6957).symm.trans m6978
                              refine lv_bipush (v := 12) hx hb dX12_findForce_133 (by decide) ?_
                              refine lv_aload_n hx hb dX12_findForce_135 rfl (lv_at hl 3 rfl) ?_
                              refine fg_RX12_8 E hW rh0 dX12_findForce_136 (fun a6980 m6981 r6982 => ?_)
                              obtain rfl : pR = a6980 := (m6968).symm.trans m6981
                              refine lv_iload hx hb dX12_findForce_139 (lv_at hl 0 rfl) ?_
                              refine lv_iconst (v := 1) hx hb dX12_findForce_141 (by decide) ?_
                              refine q_iadd (Y := 1) hx hb dX12_findForce_142 rfl rfl (by omega) (fun x6983 h6984 => ?_)
                              refine gl_822 E hW rR ⟨by omega, by omega⟩ dX12_findForce_143 (fun y6985 m6986 b6987 => ?_)
                              have m6988 : aI (f6884 pR) (x6983 : Int32).toNatClampNeg = y6972 := by rw [show (x6983 : Int32) = x6970 from Int32.toInt_inj.mp (by omega)]; exact m6973
                              obtain rfl : y6972 = y6985 := (m6988).symm.trans m6986
                              refine q_imul (X := 12) hx hb dX12_findForce_144 rfl rfl (by omega) (fun x6989 h6990 => ?_)
                              refine lv_aload_n hx hb dX12_findForce_145 rfl (lv_at hl 3 rfl) ?_
                              refine fg_RX12_8 E hW rh0 dX12_findForce_146 (fun a6991 m6992 r6993 => ?_)
                              obtain rfl : pR = a6991 := (m6981).symm.trans m6992
                              refine lv_iload hx hb dX12_findForce_149 (lv_at hl 0 rfl) ?_
                              refine lv_iconst (v := 2) hx hb dX12_findForce_151 (by decide) ?_
                              refine q_iadd (Y := 2) hx hb dX12_findForce_152 rfl rfl (by omega) (fun x6994 h6995 => ?_)
                              refine gl_822 E hW rR ⟨by omega, by omega⟩ dX12_findForce_153 (fun y6996 m6997 b6998 => ?_)
                              have b6999 := tx_s (t := y2730) (c := y6723) (by rw [fm_A hF rR (by decide) rfl]; exact hTX) (by omega) (by have z : aI (f6884 pR) 3 = y579 := m6889; rw [z]; omega) ((congrArg (fun z => aI z (x6736 : Int32).toNatClampNeg) (fm_A g6886 rR (by decide) rfl)).trans m6739) (by omega) ⟨by omega, by omega⟩ m6894 (by omega) (by omega) m6997 (by omega)
                              refine q_iadd hx hb dX12_findForce_154 rfl rfl (by omega) (fun x7000 h7001 => ?_)
                              refine lv_iconst (v := 1) hx hb dX12_findForce_155 (by decide) ?_
                              refine gs_850 E hW r6958 ⟨by omega, by omega⟩ (by decide) dX12_findForce_156 (fun f7002 H locs e7003 n7004 g7005 hW => ?_)
                              have m7006 : aI (f7002 pR) (x6736 : Int32).toNatClampNeg = y6738 := ((congrArg (fun z => aI z (x6736 : Int32).toNatClampNeg) (fm_A g7005 rR (by decide) rfl)).trans ((congrArg (fun z => aI z (x6736 : Int32).toNatClampNeg) (fm_A g6886 rR (by decide) rfl)).trans m6739))
                              have m7007 : aI (f7002 a4870) (y2730 : Int32).toNatClampNeg = y6879 := ((congrArg (fun z => aI z (y2730 : Int32).toNatClampNeg) (fm_A g7005 r4872 (by decide) rfl)).trans ((congrArg (fun z => aI z (y2730 : Int32).toNatClampNeg) (fm_A g6886 r4872 (by decide) rfl)).trans m6880))
                              have hF := FM.tr hF g7005 rfl
                              exact J6952 f7002 ((fm_R g7005 rh0 rfl).trans m6992) ((fm_R g7005 rh0 rfl).trans ((fm_R g6886 rh0 rfl).trans m6877)) ((congrArg (fun z => aI z (3 : Int32).toNatClampNeg) (fm_A g7005 rR (by decide) rfl)).trans m6889) (by omega) _ _ _ hW hF (lv_sub hl [0, 1, 2, 3, 4] rfl)
                have hk7008 : (0 : Int32).toInt = 0 := rfl
                exact L6726 13 f4890 0 ((fm_R g4893 rh0 rfl).trans ((fm_R g4879 rh0 rfl).trans m4874)) ((fm_R g4893 rh0 rfl).trans ((fm_R g4879 rh0 rfl).trans m4871)) m4894 (by decide) (by omega) (by omega) _ _ _ hW hF (lv_sub hl [0, 1, 2, 3] rfl)
              refine q_icmp_gt (tgt := 57) hx hb dX12_findForce_50 (by decide) rfl rfl (fun c7009 => ?_) (fun c7009 => ?_)
              · refine lv_iconst (v := 0) hx hb dX12_findForce_57 (by decide) ?_
                have hk7010 : (0 : Int32).toInt = 0 := rfl
                exact J4889 0 (by decide) (by omega) _ _ _ hW hF (lv_sub hl [0, 1, 2] rfl)
              · refine lv_iconst (v := 1) hx hb dX12_findForce_53 (by decide) ?_
                refine lv_goto (tgt := 58) hx hb dX12_findForce_54 (by decide) ?_
                have hk7011 : (1 : Int32).toInt = 1 := rfl
                exact J4889 1 (by decide) (by omega) _ _ _ hW hF (lv_sub hl [0, 1, 2] rfl)
        exact L2733 21 f561 x583 m577 m580 (by omega) (by omega) (by omega) _ _ _ hW hF (lv_sub hl [0, 1, 2] rfl)
      · refine lv_aload_n hx hb dX12_findForce_9 rfl (lv_at hl 1 rfl) ?_
        refine fg_RX12_57 E hW rh0 dX12_findForce_10 (fun a7012 m7013 r7014 => ?_)
        refine lv_iload_n hx hb dX12_findForce_13 rfl (lv_at hl 0 rfl) ?_
        refine lv_iconst (v := 0) hx hb dX12_findForce_14 (by decide) ?_
        refine gs_850 E hW r7014 ⟨by omega, by omega⟩ (by decide) dX12_findForce_15 (fun f7015 H locs e7016 n7017 g7018 hW => ?_)
        have hF := FM.tr hF g7018 rfl
        refine q_iinc hx hb dX12_findForce_16 hl (k := 0) rfl rfl rfl (by omega) (by decide) (fun i7019 ls h7020 hl => ?_)
        have hl : lv_has ls 5 [(2, .int i7019), (0, .ref h0), (1, .int u1)] := hl
        refine lv_goto (tgt := 2) hx hb dX12_findForce_19 (by decide) ?_
        exact ih2 f7015 i7019 ((fm_R g7018 rh0 rfl).trans m562) (by omega) (by omega) _ _ _ hW hF (lv_sub hl [0, 1, 2] rfl)
  have hk7021 : (0 : Int32).toInt = 0 := rfl
  exact L565 241 f0 0 mR (by decide) (by omega) _ _ _ hW hF (lv_sub hl [0, 1, 2] rfl)
def ms_X12_forceNow : List (Nat × Nat) := [(849, 0), (850, 0)]
def po_X12_forceNow (kp : Nat → Nat) (L : List Nat) (f0 : Nat → va_E) (h0 : Nat) : Option Value → (Nat → va_E) → Prop := fun v f => v = none ∧ FM kp L ms_X12_forceNow f0 f
set_option maxHeartbeats 4000000 in
set_option maxRecDepth 100000 in
theorem c_X12_forceNow (l : Launch) (G : va_G) (cI cJ cZ cD cR cT : ClassId) (kp : Nat → Nat) (L : List Nat) (f0 : Nat → va_E) (hTH : TH cI cJ cZ cD cR cT kp L f0) (sz : Nat) (h0 : Nat) (rh0 : RK kp L h0 12) (hTX : TX (aI (f0 (oR (f0 h0) 2)))) : Met l yX12_forceNow (Cond.code yX12_forceNow cX12_forceNow 1 none :: wTab) ({ frames := 4, cells := 0, slots := 0, locals := 105 }) (va_Pc [.ref h0] (PreW G (tys6 cI cJ cZ cD cR cT) (va_pl L f0) sz)) (QT (po_X12_forceNow kp L f0 h0) G cI cJ cZ cD cR cT (va_A (va_pl L f0) sz) kp L) 0 0 (va_A (va_pl L f0) sz) := by
  refine metT (by decide) (Nat.le_of_ble_eq_true rfl) hTH ?_
  intro p e s m below meth c A ls E hW hl
  obtain ⟨hx, hb, -, hml, hown, hts, -, -, -⟩ := id E
  have hF : FM kp L ms_X12_forceNow f0 f0 := FM.rf
  have hl : lv_has ls 1 [(0, .ref h0)] := hl
  obtain ⟨pR, mR⟩ : ∃ x : Nat, oR (f0 h0) 2 = x := ⟨_, rfl⟩
  have rR : RK kp L pR 822 := by rw [← mR]; exact th_ref hTH rh0 (by decide) (by decide) rfl
  rw [mR] at hTX
  refine lv_aload_n hx hb dX12_forceNow_0 rfl (lv_at hl 0 rfl) ?_
  refine lv_aload_n hx hb dX12_forceNow_1 rfl (lv_at hl 0 rfl) ?_
  refine fg_RX12_8 E hW rh0 dX12_forceNow_2 (fun a1 m2 r3 => ?_)
  obtain rfl : pR = a1 := (mR).symm.trans m2
  refine lv_bipush (v := 8) hx hb dX12_forceNow_5 (by decide) ?_
  refine gl_822 E hW rR (by decide) dX12_forceNow_7 (fun y4 m5 b6 => ?_)
  have b7 := rr_8 (show RowInv _ from b6) m5 (by decide)
  refine t_callV (As := [.int y4]) (rest := []) E hW (c_X12_findForce l G cI cJ cZ cD cR cT kp L f0 hW.2.2.2 _ h0 y4 rh0 (by omega) (by rw [m2]; exact hTX)) rh0 (by decide) rfl wk_X12_findForce tw_1651 rfl ⟨Nat.le_of_ble_eq_true rfl, Nat.le_of_ble_eq_true rfl⟩ ⟨rfl, rfl⟩ hl.1 rfl (Nat.le_of_ble_eq_true rfl) dX12_forceNow_8 ⟨Nat.le_of_ble_eq_true rfl, Nat.le_of_ble_eq_true rfl⟩ (fun v8 f9 H locs q10 hW => ?_)
  obtain ⟨rfl, g11⟩ := q10
  have hF := FM.tr hF g11 rfl
  exact e_V E hW rfl ⟨rfl, hF⟩ dX12_forceNow_11
def ms_X12_stepWeeks : List (Nat × Nat) := []
def po_X12_stepWeeks (kp : Nat → Nat) (L : List Nat) (f0 : Nat → va_E) (h0 : Nat) (u1 : Int32) : Option Value → (Nat → va_E) → Prop := fun v f => (∃ r : Int32, v = some (.int r) ∧ (True)) ∧ FM kp L ms_X12_stepWeeks f0 f
set_option maxHeartbeats 4000000 in
set_option maxRecDepth 100000 in
theorem c_X12_stepWeeks (l : Launch) (G : va_G) (cI cJ cZ cD cR cT : ClassId) (kp : Nat → Nat) (L : List Nat) (f0 : Nat → va_E) (hTH : TH cI cJ cZ cD cR cT kp L f0) (sz : Nat) (h0 : Nat) (u1 : Int32) (rh0 : RK kp L h0 12) (pu1 : u1.toInt ≤ 3) (hTX : TX (aI (f0 (oR (f0 h0) 2)))) : Met l yX12_stepWeeks (Cond.code yX12_stepWeeks cX12_stepWeeks 6 (some .int) :: wTab) ({ frames := 3, cells := 0, slots := 0, locals := 81 }) (va_Pc [.ref h0, .int u1] (PreW G (tys6 cI cJ cZ cD cR cT) (va_pl L f0) sz)) (QT (po_X12_stepWeeks kp L f0 h0 u1) G cI cJ cZ cD cR cT (va_A (va_pl L f0) sz) kp L) 0 0 (va_A (va_pl L f0) sz) := by
  refine metT (by decide) (Nat.le_of_ble_eq_true rfl) hTH ?_
  intro p e s m below meth c A ls E hW hl
  obtain ⟨hx, hb, -, hml, hown, hts, -, -, -⟩ := id E
  have hF : FM kp L ms_X12_stepWeeks f0 f0 := FM.rf
  have hl : lv_has ls 6 [(0, .ref h0), (1, .int u1)] := hl
  obtain ⟨pR, mR⟩ : ∃ x : Nat, oR (f0 h0) 2 = x := ⟨_, rfl⟩
  have rR : RK kp L pR 822 := by rw [← mR]; exact th_ref hTH rh0 (by decide) (by decide) rfl
  rw [mR] at hTX
  refine lv_iconst (v := 4) hx hb dX12_stepWeeks_0 (by decide) ?_
  refine lv_istore_n (lv' := [(2, .int 4), (0, .ref h0), (1, .int u1)]) hx hb dX12_stepWeeks_1 rfl hl (by decide) rfl (fun ls hl => ?_)
  refine lv_iconst (v := 0) hx hb dX12_stepWeeks_2 (by decide) ?_
  refine lv_istore_n (lv' := [(3, .int 0), (2, .int 4), (0, .ref h0), (1, .int u1)]) hx hb dX12_stepWeeks_3 rfl hl (by decide) rfl (fun ls hl => ?_)
  have L24082 : ∀ (n : Nat), ∀ (f24077 : Nat → va_E) (y24079 : Int32) (y24081 : Int32) (m24078 : oR (f24077 h0) 2 = pR) (b24080 : (0 : Int) ≤ y24079.toInt ∧ y24079.toInt ≤ 20) (hm : (21 : Int) - y24079.toInt ≤ n) (H : Heap) (locs : List Loc) (ls : Array Slot), WS G cI cJ cZ cD cR cT A kp L f24077 s H locs → FM kp L ms_X12_stepWeeks f0 f24077 → lv_has ls 6 [(3, .int y24079), (2, .int y24081), (0, .ref h0), (1, .int u1)] → W p l e ({ frames := 3, cells := 0, slots := 0, locals := 81 }) s m ([.ref h0, .int u1] : List Value).toArray below meth c H locs 0 0 (MQ below (QT (po_X12_stepWeeks kp L f0 h0 u1) G cI cJ cZ cD cR cT A kp L) ([.ref h0, .int u1] : List Value).toArray s 0 0 A) (F0 m 4 ls []) := by
    intro n
    induction n with
    | zero =>
      intro f24077 y24079 y24081 m24078 b24080 hm H locs ls hW hF hl
      have hz := i32_b y24079
      exfalso; omega
    | succ n ih =>
      intro f24077 y24079 y24081 m24078 b24080 hm H locs ls hW hF hl
      have ih4 := ih
      refine lv_iload_n hx hb dX12_stepWeeks_4 rfl (lv_at hl 0 rfl) ?_
      refine lv_aload_n hx hb dX12_stepWeeks_5 rfl (lv_at hl 2 rfl) ?_
      refine fg_RX12_8 E hW rh0 dX12_stepWeeks_6 (fun a24083 m24084 r24085 => ?_)
      obtain rfl : pR = a24083 := (m24078).symm.trans m24084
      refine lv_iconst (v := 3) hx hb dX12_stepWeeks_9 (by decide) ?_
      refine gl_822 E hW rR (by decide) dX12_stepWeeks_10 (fun y24086 m24087 b24088 => ?_)
      have b24089 := rr_3 (show RowInv _ from b24088) m24087 (by decide)
      refine q_icmp_ge (tgt := 101) hx hb dX12_stepWeeks_11 (by decide) rfl rfl (fun c25493 => ?_) (fun c25493 => ?_)
      · refine lv_iload_n hx hb dX12_stepWeeks_101 rfl (lv_at hl 1 rfl) ?_
        exact e_I E hW rfl ⟨⟨_, rfl, trivial⟩, hF⟩ dX12_stepWeeks_102
      · refine lv_iconst (v := 0) hx hb dX12_stepWeeks_14 (by decide) ?_
        refine lv_istore (lv' := [(4, .int 0), (3, .int y24079), (2, .int y24081), (0, .ref h0), (1, .int u1)]) hx hb dX12_stepWeeks_15 hl (by decide) rfl (fun ls hl => ?_)
        have L26732 : ∀ (n : Nat), ∀ (f26726 : Nat → va_E) (y26729 : Int32) (y26731 : Int32) (m26727 : oR (f26726 h0) 2 = pR) (m26728 : aI (f26726 pR) (3 : Int32).toNatClampNeg = y24086) (b26730 : (0 : Int) ≤ y26729.toInt ∧ y26729.toInt ≤ 12) (hm : (13 : Int) - y26729.toInt ≤ n) (H : Heap) (locs : List Loc) (ls : Array Slot), WS G cI cJ cZ cD cR cT A kp L f26726 s H locs → FM kp L ms_X12_stepWeeks f0 f26726 → lv_has ls 6 [(4, .int y26729), (3, .int y24079), (2, .int y26731), (0, .ref h0), (1, .int u1)] → W p l e ({ frames := 3, cells := 0, slots := 0, locals := 81 }) s m ([.ref h0, .int u1] : List Value).toArray below meth c H locs 0 0 (MQ below (QT (po_X12_stepWeeks kp L f0 h0 u1) G cI cJ cZ cD cR cT A kp L) ([.ref h0, .int u1] : List Value).toArray s 0 0 A) (F0 m 17 ls []) := by
          intro n
          induction n with
          | zero =>
            intro f26726 y26729 y26731 m26727 m26728 b26730 hm H locs ls hW hF hl
            have hz := i32_b y26729
            exfalso; omega
          | succ n ih =>
            intro f26726 y26729 y26731 m26727 m26728 b26730 hm H locs ls hW hF hl
            have ih17 := ih
            refine lv_iload hx hb dX12_stepWeeks_17 (lv_at hl 0 rfl) ?_
            refine lv_aload_n hx hb dX12_stepWeeks_19 rfl (lv_at hl 3 rfl) ?_
            refine fg_RX12_8 E hW rh0 dX12_stepWeeks_20 (fun a26733 m26734 r26735 => ?_)
            obtain rfl : pR = a26733 := (m26727).symm.trans m26734
            refine lv_iload_n hx hb dX12_stepWeeks_23 rfl (lv_at hl 1 rfl) ?_
            refine t_callS (As := [.int y24079]) (rest := [.ref pR, .int y26729]) E hW (c_X12_textAt l G cI cJ cZ cD cR cT kp L f26726 hW.2.2.2 _ y24079 (by omega)) wk_X12_textAt tw_1655 rfl ⟨Nat.le_of_ble_eq_true rfl, Nat.le_of_ble_eq_true rfl⟩ ⟨rfl, rfl⟩ hl.1 rfl (Nat.le_of_ble_eq_true rfl) dX12_stepWeeks_24 ⟨Nat.le_of_ble_eq_true rfl, Nat.le_of_ble_eq_true rfl⟩ (fun v26736 f26737 H locs q26738 hW => ?_)
            obtain ⟨⟨x26740, rfl, p26741⟩, g26739⟩ := q26738
            have hF := FM.tr hF g26739 rfl
            refine lv_iconst (v := 1) hx hb dX12_stepWeeks_27 (by decide) ?_
            refine q_iadd (Y := 1) hx hb dX12_stepWeeks_28 rfl rfl (by omega) (fun x26742 h26743 => ?_)
            refine gl_822 E hW rR ⟨by omega, by omega⟩ dX12_stepWeeks_29 (fun y26744 m26745 b26746 => ?_)
            have b26747 := tx_n (t := y24079) (by rw [fm_A hF rR (by decide) rfl]; exact hTX) (by omega) (by have z : aI (f26737 pR) 3 = y24086 := ((congrArg (fun z => aI z (3 : Int32).toNatClampNeg) (fm_A g26739 rR (by decide) rfl)).trans m26728); rw [z]; omega) m26745 (by omega)
            refine q_icmp_ge (tgt := 95) hx hb dX12_stepWeeks_30 (by decide) rfl rfl (fun c26821 => ?_) (fun c26821 => ?_)
            · refine q_iinc hx hb dX12_stepWeeks_95 hl (k := 1) rfl rfl rfl (by omega) (by decide) (fun i26822 ls h26823 hl => ?_)
              have hl : lv_has ls 6 [(3, .int i26822), (4, .int y26729), (2, .int y26731), (0, .ref h0), (1, .int u1)] := hl
              refine lv_goto (tgt := 4) hx hb dX12_stepWeeks_98 (by decide) ?_
              exact ih4 f26737 i26822 y26731 ((fm_R g26739 rh0 rfl).trans m26734) (by omega) (by omega) _ _ _ hW hF (lv_sub hl [0, 2, 3, 4] rfl)
            · refine lv_iload_n hx hb dX12_stepWeeks_33 rfl (lv_at hl 1 rfl) ?_
              refine lv_iload hx hb dX12_stepWeeks_34 (lv_at hl 0 rfl) ?_
              refine t_callS (As := [.int y24079, .int y26729]) (rest := []) E hW (c_X12_clauseAt l G cI cJ cZ cD cR cT kp L f26737 hW.2.2.2 _ y24079 y26729 (by omega) (by omega)) wk_X12_clauseAt tw_1658 rfl ⟨Nat.le_of_ble_eq_true rfl, Nat.le_of_ble_eq_true rfl⟩ ⟨rfl, rfl⟩ hl.1 rfl (Nat.le_of_ble_eq_true rfl) dX12_stepWeeks_36 ⟨Nat.le_of_ble_eq_true rfl, Nat.le_of_ble_eq_true rfl⟩ (fun v26824 f26825 H locs q26826 hW => ?_)
              obtain ⟨⟨x26828, rfl, p26829⟩, g26827⟩ := q26826
              have m26830 : aI (f26825 pR) (3 : Int32).toNatClampNeg = y24086 := ((congrArg (fun z => aI z (3 : Int32).toNatClampNeg) (fm_A g26827 rR (by decide) rfl)).trans ((congrArg (fun z => aI z (3 : Int32).toNatClampNeg) (fm_A g26739 rR (by decide) rfl)).trans m26728))
              have hF := FM.tr hF g26827 rfl
              refine lv_istore (lv' := [(5, .int x26828), (4, .int y26729), (3, .int y24079), (2, .int y26731), (0, .ref h0), (1, .int u1)]) hx hb dX12_stepWeeks_39 hl (by decide) rfl (fun ls hl => ?_)
              refine lv_aload_n hx hb dX12_stepWeeks_41 rfl (lv_at hl 4 rfl) ?_
              refine fg_RX12_8 E hW rh0 dX12_stepWeeks_42 (fun a26831 m26832 r26833 => ?_)
              obtain rfl : pR = a26831 := (((fm_R g26827 rh0 rfl).trans ((fm_R g26739 rh0 rfl).trans m26734))).symm.trans m26832
              refine lv_iload hx hb dX12_stepWeeks_45 (lv_at hl 0 rfl) ?_
              refine gl_822 E hW rR ⟨by omega, by omega⟩ dX12_stepWeeks_47 (fun y26834 m26835 b26836 => ?_)
              refine lv_iconst (v := 1) hx hb dX12_stepWeeks_48 (by decide) ?_
              have J26868 : ∀ (f26864 : Nat → va_E) (y26867 : Int32) (m26865 : oR (f26864 h0) 2 = pR) (m26866 : aI (f26864 pR) (3 : Int32).toNatClampNeg = y24086) (H : Heap) (locs : List Loc) (ls : Array Slot), WS G cI cJ cZ cD cR cT A kp L f26864 s H locs → FM kp L ms_X12_stepWeeks f0 f26864 → lv_has ls 6 [(5, .int x26828), (4, .int y26729), (3, .int y24079), (2, .int y26731), (0, .ref h0), (1, .int u1)] → W p l e ({ frames := 3, cells := 0, slots := 0, locals := 81 }) s m ([.ref h0, .int u1] : List Value).toArray below meth c H locs 0 0 (MQ below (QT (po_X12_stepWeeks kp L f0 h0 u1) G cI cJ cZ cD cR cT A kp L) ([.ref h0, .int u1] : List Value).toArray s 0 0 A) (F0 m 88 ls [.int y26867]) := by
                intro f26864 y26867 m26865 m26866 H locs ls hW hF hl
                refine lv_istore_n (lv' := [(2, .int y26867), (5, .int x26828), (4, .int y26729), (3, .int y24079), (0, .ref h0), (1, .int u1)]) hx hb dX12_stepWeeks_88 rfl hl (by decide) rfl (fun ls hl => ?_)
                refine q_iinc hx hb dX12_stepWeeks_89 hl (k := 2) rfl rfl rfl (by omega) (by decide) (fun i26869 ls h26870 hl => ?_)
                have hl : lv_has ls 6 [(4, .int i26869), (2, .int y26867), (5, .int x26828), (3, .int y24079), (0, .ref h0), (1, .int u1)] := hl
                refine lv_goto (tgt := 17) hx hb dX12_stepWeeks_92 (by decide) ?_
                exact ih17 f26864 i26869 y26867 m26865 m26866 (by omega) (by omega) _ _ _ hW hF (lv_sub hl [0, 3, 1, 4, 5] rfl)
              refine q_icmp_ne (Y := 1) (tgt := 87) hx hb dX12_stepWeeks_49 (by decide) rfl rfl (fun c26871 => ?_) (fun c26871 => ?_)
              · refine lv_iload_n hx hb dX12_stepWeeks_87 rfl (lv_at hl 3 rfl) ?_
                exact J26868 f26825 y26731 m26832 m26830 _ _ _ hW hF (lv_sub hl [0, 1, 2, 3, 4, 5] rfl)
              · refine lv_aload_n hx hb dX12_stepWeeks_52 rfl (lv_at hl 4 rfl) ?_
                refine fg_RX12_8 E hW rh0 dX12_stepWeeks_53 (fun a26872 m26873 r26874 => ?_)
                obtain rfl : pR = a26872 := (m26832).symm.trans m26873
                refine lv_iload hx hb dX12_stepWeeks_56 (lv_at hl 0 rfl) ?_
                refine lv_iconst (v := 1) hx hb dX12_stepWeeks_58 (by decide) ?_
                refine q_iadd (Y := 1) hx hb dX12_stepWeeks_59 rfl rfl (by omega) (fun x26875 h26876 => ?_)
                refine gl_822 E hW rR ⟨by omega, by omega⟩ dX12_stepWeeks_60 (fun y26877 m26878 b26879 => ?_)
                refine lv_iload_n hx hb dX12_stepWeeks_61 rfl (lv_at hl 5 rfl) ?_
                refine q_icmp_ne (tgt := 87) hx hb dX12_stepWeeks_62 (by decide) rfl rfl (fun c26881 => ?_) (fun c26881 => ?_)
                · refine lv_iload_n hx hb dX12_stepWeeks_87 rfl (lv_at hl 3 rfl) ?_
                  exact J26868 f26825 y26731 m26873 m26830 _ _ _ hW hF (lv_sub hl [0, 1, 2, 3, 4, 5] rfl)
                · refine lv_aload_n hx hb dX12_stepWeeks_65 rfl (lv_at hl 4 rfl) ?_
                  refine lv_iload_n hx hb dX12_stepWeeks_66 rfl (lv_at hl 2 rfl) ?_
                  refine lv_iload hx hb dX12_stepWeeks_67 (lv_at hl 1 rfl) ?_
                  refine t_callV (As := [.int y24079, .int y26729]) (rest := []) E hW (c_X12_isIn l G cI cJ cZ cD cR cT kp L f26825 hW.2.2.2 _ h0 y24079 y26729 rh0 (by omega) (by omega)) rh0 (by decide) rfl wk_X12_isIn tw_1685 rfl ⟨Nat.le_of_ble_eq_true rfl, Nat.le_of_ble_eq_true rfl⟩ ⟨rfl, rfl⟩ hl.1 rfl (Nat.le_of_ble_eq_true rfl) dX12_stepWeeks_69 ⟨Nat.le_of_ble_eq_true rfl, Nat.le_of_ble_eq_true rfl⟩ (fun v26882 f26883 H locs q26884 hW => ?_)
                  obtain ⟨⟨x26886, rfl, p26887⟩, g26885⟩ := q26884
                  have m26888 : aI (f26883 pR) (x26742 : Int32).toNatClampNeg = y26744 := ((congrArg (fun z => aI z (x26742 : Int32).toNatClampNeg) (fm_A g26885 rR (by decide) rfl)).trans ((congrArg (fun z => aI z (x26742 : Int32).toNatClampNeg) (fm_A g26827 rR (by decide) rfl)).trans m26745))
                  have hF := FM.tr hF g26885 rfl
                  refine q_if_eq (tgt := 87) hx hb dX12_stepWeeks_72 (by decide) rfl (fun c26889 => ?_) (fun c26889 => ?_)
                  · refine lv_iload_n hx hb dX12_stepWeeks_87 rfl (lv_at hl 3 rfl) ?_
                    exact J26868 f26883 y26731 ((fm_R g26885 rh0 rfl).trans m26873) ((congrArg (fun z => aI z (3 : Int32).toNatClampNeg) (fm_A g26885 rR (by decide) rfl)).trans m26830) _ _ _ hW hF (lv_sub hl [0, 1, 2, 3, 4, 5] rfl)
                  · refine lv_aload_n hx hb dX12_stepWeeks_75 rfl (lv_at hl 4 rfl) ?_
                    refine fg_RX12_8 E hW rh0 dX12_stepWeeks_76 (fun a26890 m26891 r26892 => ?_)
                    obtain rfl : pR = a26890 := (((fm_R g26885 rh0 rfl).trans m26873)).symm.trans m26891
                    refine lv_iload hx hb dX12_stepWeeks_79 (lv_at hl 0 rfl) ?_
                    refine lv_iconst (v := 2) hx hb dX12_stepWeeks_81 (by decide) ?_
                    refine q_iadd (Y := 2) hx hb dX12_stepWeeks_82 rfl rfl (by omega) (fun x26893 h26894 => ?_)
                    refine gl_822 E hW rR ⟨by omega, by omega⟩ dX12_stepWeeks_83 (fun y26895 m26896 b26897 => ?_)
                    refine lv_goto (tgt := 88) hx hb dX12_stepWeeks_84 (by decide) ?_
                    exact J26868 f26883 y26895 m26891 ((congrArg (fun z => aI z (3 : Int32).toNatClampNeg) (fm_A g26885 rR (by decide) rfl)).trans m26830) _ _ _ hW hF (lv_sub hl [0, 1, 2, 3, 4, 5] rfl)
        have hk26899 : (0 : Int32).toInt = 0 := rfl
        exact L26732 13 f24077 0 y24081 m24084 m24087 (by decide) (by omega) _ _ _ hW hF (lv_sub hl [0, 1, 2, 3, 4] rfl)
  have hk26900 : (0 : Int32).toInt = 0 := rfl
  have hk26901 : (4 : Int32).toInt = 4 := rfl
  exact L24082 21 f0 0 4 mR (by decide) (by omega) _ _ _ hW hF (lv_sub hl [0, 1, 2, 3] rfl)
def ms_X12_force : List (Nat × Nat) := [(12, 0), (849, 0), (850, 0)]
def po_X12_force (kp : Nat → Nat) (L : List Nat) (f0 : Nat → va_E) (h0 : Nat) (u1 : Int32) (u2 : Int32) (u3 : Int32) : Option Value → (Nat → va_E) → Prop := fun v f => (∃ r : Int32, v = some (.int r) ∧ ((-1 : Int) ≤ r.toInt ∧ r.toInt ≤ 1)) ∧ FM kp L ms_X12_force f0 f
set_option maxHeartbeats 4000000 in
set_option maxRecDepth 100000 in
theorem c_X12_force (l : Launch) (G : va_G) (cI cJ cZ cD cR cT : ClassId) (kp : Nat → Nat) (L : List Nat) (f0 : Nat → va_E) (hTH : TH cI cJ cZ cD cR cT kp L f0) (sz : Nat) (h0 : Nat) (u1 : Int32) (u2 : Int32) (u3 : Int32) (rh0 : RK kp L h0 12) (hTX : TX (aI (f0 (oR (f0 h0) 2)))) : Met l yX12_force (Cond.code yX12_force cX12_force 4 (some .int) :: wTab) ({ frames := 4, cells := 0, slots := 0, locals := 105 }) (va_Pc [.ref h0, .int u1, .int u2, .int u3] (PreW G (tys6 cI cJ cZ cD cR cT) (va_pl L f0) sz)) (QT (po_X12_force kp L f0 h0 u1 u2 u3) G cI cJ cZ cD cR cT (va_A (va_pl L f0) sz) kp L) 0 0 (va_A (va_pl L f0) sz) := by
  refine metT (by decide) (Nat.le_of_ble_eq_true rfl) hTH ?_
  intro p e s m below meth c A ls E hW hl
  obtain ⟨hx, hb, -, hml, hown, hts, -, -, -⟩ := id E
  have hF : FM kp L ms_X12_force f0 f0 := FM.rf
  have hl : lv_has ls 4 [(0, .ref h0), (1, .int u1), (2, .int u2), (3, .int u3)] := hl
  obtain ⟨pR, mR⟩ : ∃ x : Nat, oR (f0 h0) 2 = x := ⟨_, rfl⟩
  have rR : RK kp L pR 822 := by rw [← mR]; exact th_ref hTH rh0 (by decide) (by decide) rfl
  rw [mR] at hTX
  refine lv_aload_n hx hb dX12_force_0 rfl (lv_at hl 0 rfl) ?_
  refine lv_iconst (v := 0) hx hb dX12_force_1 (by decide) ?_
  refine fp_RX12_82 E hW rh0 dX12_force_2 (fun f1 H locs e2 n3 g4 hW => ?_)
  have hF := FM.tr hF g4 rfl
  refine lv_iload_n hx hb dX12_force_5 rfl (lv_at hl 1 rfl) ?_
  refine q_i2l hx hb dX12_force_6 rfl (fun x5 h6 => ?_)
  have hb7 : -2147483648 ≤ x5.toInt ∧ x5.toInt ≤ 2147483647 := by have := i32_b u1; omega
  refine lv_lconst (v := 0) hx hb dX12_force_7 (by decide) ?_
  refine lv_aload_n hx hb dX12_force_8 rfl (lv_at hl 0 rfl) ?_
  refine fg_RX12_8 E hW rh0 dX12_force_9 (fun a8 m9 r10 => ?_)
  obtain rfl : pR = a8 := (((fm_R g4 rh0 rfl).trans mR)).symm.trans m9
  refine lv_iconst (v := 3) hx hb dX12_force_12 (by decide) ?_
  refine gl_822 E hW rR (by decide) dX12_force_13 (fun y11 m12 b13 => ?_)
  have b14 := rr_3 (show RowInv _ from b13) m12 (by decide)
  refine q_i2l hx hb dX12_force_14 rfl (fun x15 h16 => ?_)
  refine lv_lconst (v := 1) hx hb dX12_force_15 (by decide) ?_
  refine q_lsub (Y := 1) hx hb dX12_force_16 rfl rfl (by omega) (fun x17 h18 => ?_)
  refine t_callS (As := [.long x5, .long 0, .long x17]) (rest := []) E hW (c_X12_in l G cI cJ cZ cD cR cT kp L f1 hW.2.2.2 _ x5 0 x17) wk_X12_in tw_1554 rfl ⟨Nat.le_of_ble_eq_true rfl, Nat.le_of_ble_eq_true rfl⟩ ⟨rfl, rfl⟩ hl.1 rfl (Nat.le_of_ble_eq_true rfl) dX12_force_17 ⟨Nat.le_of_ble_eq_true rfl, Nat.le_of_ble_eq_true rfl⟩ (fun v19 f20 H locs q21 hW => ?_)
  obtain ⟨⟨x23, rfl, p24⟩, g22⟩ := q21
  have p24 : (x23.toInt = 1 ∧ 0 ≤ x5.toInt ∧ x5.toInt ≤ x17.toInt) ∨ (x23.toInt = 0 ∧ (x5.toInt < 0 ∨ x17.toInt < x5.toInt)) := p24
  have hF := FM.tr hF g22 rfl
  refine q_if_eq (tgt := 53) hx hb dX12_force_20 (by decide) rfl (fun c25 => ?_) (fun c25 => ?_)
  · have q26 : (x5.toInt < 0 ∨ x17.toInt < x5.toInt) := by omega
    clear p24
    refine lv_iconst (v := (-1)) hx hb dX12_force_53 (by decide) ?_
    exact e_I E hW rfl ⟨⟨_, rfl, (by have hk : ((-1) : Int32).toInt = -1 := rfl; first | decide | omega)⟩, hF⟩ dX12_force_54
  · have q27 : 0 ≤ x5.toInt ∧ x5.toInt ≤ x17.toInt := by omega
    clear p24
    refine lv_iload_n hx hb dX12_force_23 rfl (lv_at hl 2 rfl) ?_
    refine q_i2l hx hb dX12_force_24 rfl (fun x28 h29 => ?_)
    have hb30 : -2147483648 ≤ x28.toInt ∧ x28.toInt ≤ 2147483647 := by have := i32_b u2; omega
    refine lv_lconst (v := 0) hx hb dX12_force_25 (by decide) ?_
    refine lv_aload_n hx hb dX12_force_26 rfl (lv_at hl 0 rfl) ?_
    refine fg_RX12_8 E hW rh0 dX12_force_27 (fun a31 m32 r33 => ?_)
    obtain rfl : pR = a31 := (((fm_R g22 rh0 rfl).trans m9)).symm.trans m32
    refine lv_iload_n hx hb dX12_force_30 rfl (lv_at hl 1 rfl) ?_
    refine t_callS (As := [.int u1]) (rest := [.ref pR, .long 0, .long x28]) E hW (c_X12_textAt l G cI cJ cZ cD cR cT kp L f20 hW.2.2.2 _ u1 (by omega)) wk_X12_textAt tw_1655 rfl ⟨Nat.le_of_ble_eq_true rfl, Nat.le_of_ble_eq_true rfl⟩ ⟨rfl, rfl⟩ hl.1 rfl (Nat.le_of_ble_eq_true rfl) dX12_force_31 ⟨Nat.le_of_ble_eq_true rfl, Nat.le_of_ble_eq_true rfl⟩ (fun v34 f35 H locs q36 hW => ?_)
    obtain ⟨⟨x38, rfl, p39⟩, g37⟩ := q36
    have m40 : aI (f35 pR) (3 : Int32).toNatClampNeg = y11 := ((congrArg (fun z => aI z (3 : Int32).toNatClampNeg) (fm_A g37 rR (by decide) rfl)).trans ((congrArg (fun z => aI z (3 : Int32).toNatClampNeg) (fm_A g22 rR (by decide) rfl)).trans m12))
    have hF := FM.tr hF g37 rfl
    refine lv_iconst (v := 1) hx hb dX12_force_34 (by decide) ?_
    refine q_iadd (Y := 1) hx hb dX12_force_35 rfl rfl (by omega) (fun x41 h42 => ?_)
    refine gl_822 E hW rR ⟨by omega, by omega⟩ dX12_force_36 (fun y43 m44 b45 => ?_)
    have b46 := tx_n (t := u1) (by rw [fm_A hF rR (by decide) rfl]; exact hTX) (by omega) (by have z : aI (f35 pR) 3 = y11 := m40; rw [z]; omega) m44 (by omega)
    refine q_i2l hx hb dX12_force_37 rfl (fun x47 h48 => ?_)
    refine lv_lconst (v := 1) hx hb dX12_force_38 (by decide) ?_
    refine q_lsub (Y := 1) hx hb dX12_force_39 rfl rfl (by omega) (fun x49 h50 => ?_)
    refine t_callS (As := [.long x28, .long 0, .long x49]) (rest := []) E hW (c_X12_in l G cI cJ cZ cD cR cT kp L f35 hW.2.2.2 _ x28 0 x49) wk_X12_in tw_1554 rfl ⟨Nat.le_of_ble_eq_true rfl, Nat.le_of_ble_eq_true rfl⟩ ⟨rfl, rfl⟩ hl.1 rfl (Nat.le_of_ble_eq_true rfl) dX12_force_40 ⟨Nat.le_of_ble_eq_true rfl, Nat.le_of_ble_eq_true rfl⟩ (fun v51 f52 H locs q53 hW => ?_)
    obtain ⟨⟨x55, rfl, p56⟩, g54⟩ := q53
    have p56 : (x55.toInt = 1 ∧ 0 ≤ x28.toInt ∧ x28.toInt ≤ x49.toInt) ∨ (x55.toInt = 0 ∧ (x28.toInt < 0 ∨ x49.toInt < x28.toInt)) := p56
    have hF := FM.tr hF g54 rfl
    refine q_if_eq (tgt := 53) hx hb dX12_force_43 (by decide) rfl (fun c57 => ?_) (fun c57 => ?_)
    · have q58 : (x28.toInt < 0 ∨ x49.toInt < x28.toInt) := by omega
      clear p56
      refine lv_iconst (v := (-1)) hx hb dX12_force_53 (by decide) ?_
      exact e_I E hW rfl ⟨⟨_, rfl, (by have hk : ((-1) : Int32).toInt = -1 := rfl; first | decide | omega)⟩, hF⟩ dX12_force_54
    · have q59 : 0 ≤ x28.toInt ∧ x28.toInt ≤ x49.toInt := by omega
      clear p56
      refine lv_iload_n hx hb dX12_force_46 rfl (lv_at hl 3 rfl) ?_
      refine t_callS (As := [.int u3]) (rest := []) E hW (c_X12_isWeek l G cI cJ cZ cD cR cT kp L f52 hW.2.2.2 _ u3) wk_X12_isWeek tw_1719 rfl ⟨Nat.le_of_ble_eq_true rfl, Nat.le_of_ble_eq_true rfl⟩ ⟨rfl, rfl⟩ hl.1 rfl (Nat.le_of_ble_eq_true rfl) dX12_force_47 ⟨Nat.le_of_ble_eq_true rfl, Nat.le_of_ble_eq_true rfl⟩ (fun v60 f61 H locs q62 hW => ?_)
      obtain ⟨⟨x64, rfl, p65⟩, g63⟩ := q62
      have m66 : aI (f61 pR) (3 : Int32).toNatClampNeg = y11 := ((congrArg (fun z => aI z (3 : Int32).toNatClampNeg) (fm_A g63 rR (by decide) rfl)).trans ((congrArg (fun z => aI z (3 : Int32).toNatClampNeg) (fm_A g54 rR (by decide) rfl)).trans m40))
      have m67 : aI (f61 pR) (x41 : Int32).toNatClampNeg = y43 := ((congrArg (fun z => aI z (x41 : Int32).toNatClampNeg) (fm_A g63 rR (by decide) rfl)).trans ((congrArg (fun z => aI z (x41 : Int32).toNatClampNeg) (fm_A g54 rR (by decide) rfl)).trans m44))
      have hF := FM.tr hF g63 rfl
      refine q_if_ne (tgt := 55) hx hb dX12_force_50 (by decide) rfl (fun c68 => ?_) (fun c68 => ?_)
      · have q69 : 0 ≤ u3.toInt ∧ u3.toInt ≤ 399 := by omega
        clear p65
        refine lv_aload_n hx hb dX12_force_55 rfl (lv_at hl 0 rfl) ?_
        refine lv_iload_n hx hb dX12_force_56 rfl (lv_at hl 3 rfl) ?_
        refine t_callV (As := [.int u3]) (rest := []) E hW (c_X12_findForce l G cI cJ cZ cD cR cT kp L f61 hW.2.2.2 _ h0 u3 rh0 (by omega) (by rw [((fm_R g63 rh0 rfl).trans ((fm_R g54 rh0 rfl).trans ((fm_R g37 rh0 rfl).trans m32)))]; exact (by rw [fm_A hF rR (by decide) rfl]; exact hTX))) rh0 (by decide) rfl wk_X12_findForce tw_1651 rfl ⟨Nat.le_of_ble_eq_true rfl, Nat.le_of_ble_eq_true rfl⟩ ⟨rfl, rfl⟩ hl.1 rfl (Nat.le_of_ble_eq_true rfl) dX12_force_57 ⟨Nat.le_of_ble_eq_true rfl, Nat.le_of_ble_eq_true rfl⟩ (fun v70 f71 H locs q72 hW => ?_)
        obtain ⟨rfl, g73⟩ := q72
        have hF := FM.tr hF g73 rfl
        refine lv_aload_n hx hb dX12_force_60 rfl (lv_at hl 0 rfl) ?_
        refine lv_iload_n hx hb dX12_force_61 rfl (lv_at hl 1 rfl) ?_
        refine lv_iload_n hx hb dX12_force_62 rfl (lv_at hl 2 rfl) ?_
        refine t_callV (As := [.int u1, .int u2]) (rest := []) E hW (c_X12_isIn l G cI cJ cZ cD cR cT kp L f71 hW.2.2.2 _ h0 u1 u2 rh0 (by omega) (by omega)) rh0 (by decide) rfl wk_X12_isIn tw_1685 rfl ⟨Nat.le_of_ble_eq_true rfl, Nat.le_of_ble_eq_true rfl⟩ ⟨rfl, rfl⟩ hl.1 rfl (Nat.le_of_ble_eq_true rfl) dX12_force_63 ⟨Nat.le_of_ble_eq_true rfl, Nat.le_of_ble_eq_true rfl⟩ (fun v74 f75 H locs q76 hW => ?_)
        obtain ⟨⟨x78, rfl, p79⟩, g77⟩ := q76
        have m80 : aI (f75 pR) (3 : Int32).toNatClampNeg = y11 := ((congrArg (fun z => aI z (3 : Int32).toNatClampNeg) (fm_A g77 rR (by decide) rfl)).trans ((congrArg (fun z => aI z (3 : Int32).toNatClampNeg) (fm_A g73 rR (by decide) rfl)).trans m66))
        have m81 : aI (f75 pR) (x41 : Int32).toNatClampNeg = y43 := ((congrArg (fun z => aI z (x41 : Int32).toNatClampNeg) (fm_A g77 rR (by decide) rfl)).trans ((congrArg (fun z => aI z (x41 : Int32).toNatClampNeg) (fm_A g73 rR (by decide) rfl)).trans m67))
        have hF := FM.tr hF g77 rfl
        have J84 : ∀ (y82 : Int32) (b83 : (0 : Int) ≤ y82.toInt ∧ y82.toInt ≤ 1) (H : Heap) (locs : List Loc) (ls : Array Slot), WS G cI cJ cZ cD cR cT A kp L f75 s H locs → FM kp L ms_X12_force f0 f75 → lv_has ls 4 [(0, .ref h0), (1, .int u1), (2, .int u2), (3, .int u3)] → W p l e ({ frames := 4, cells := 0, slots := 0, locals := 105 }) s m ([.ref h0, .int u1, .int u2, .int u3] : List Value).toArray below meth c H locs 0 0 (MQ below (QT (po_X12_force kp L f0 h0 u1 u2 u3) G cI cJ cZ cD cR cT A kp L) ([.ref h0, .int u1, .int u2, .int u3] : List Value).toArray s 0 0 A) (F0 m 74 ls [.int y82]) := by
          intro y82 b83 H locs ls hW hF hl
          clear c25 c57 c68 p79
          exact e_I E hW rfl ⟨⟨_, rfl, (by first | omega | trivial)⟩, hF⟩ dX12_force_74
        refine q_if_eq (tgt := 73) hx hb dX12_force_66 (by decide) rfl (fun c85 => ?_) (fun c85 => ?_)
        · refine lv_iconst (v := 0) hx hb dX12_force_73 (by decide) ?_
          exact J84 0 (by decide) _ _ _ hW hF (lv_sub hl [0, 1, 2, 3] rfl)
        · refine lv_iconst (v := 1) hx hb dX12_force_69 (by decide) ?_
          refine lv_goto (tgt := 74) hx hb dX12_force_70 (by decide) ?_
          exact J84 1 (by decide) _ _ _ hW hF (lv_sub hl [0, 1, 2, 3] rfl)
      · have q86 : (u3.toInt < 0 ∨ 399 < u3.toInt) := by omega
        clear p65
        refine lv_iconst (v := (-1)) hx hb dX12_force_53 (by decide) ?_
        exact e_I E hW rfl ⟨⟨_, rfl, (by have hk : ((-1) : Int32).toInt = -1 := rfl; first | decide | omega)⟩, hF⟩ dX12_force_54
def ms_X12_run : List (Nat × Nat) := [(12, 33), (12, 34), (852, 0)]
def po_X12_run (kp : Nat → Nat) (L : List Nat) (f0 : Nat → va_E) (h0 : Nat) (u1 : Int32) (u2 : Int32) (u3 : Int32) : Option Value → (Nat → va_E) → Prop := fun v f => v = none ∧ FM kp L ms_X12_run f0 f
set_option maxHeartbeats 4000000 in
set_option maxRecDepth 100000 in
theorem c_X12_run (l : Launch) (G : va_G) (cI cJ cZ cD cR cT : ClassId) (kp : Nat → Nat) (L : List Nat) (f0 : Nat → va_E) (hTH : TH cI cJ cZ cD cR cT kp L f0) (sz : Nat) (h0 : Nat) (u1 : Int32) (u2 : Int32) (u3 : Int32) (rh0 : RK kp L h0 12) (pu1 : (0 : Int) ≤ u1.toInt ∧ u1.toInt ≤ 19) (hSeg : Seg (aI (f0 (oR (f0 h0) 2))) u1.toInt u2.toInt u3.toInt) : Met l yX12_run (Cond.code yX12_run cX12_run 8 none :: wTab) ({ frames := 2, cells := 0, slots := 0, locals := 65 }) (va_Pc [.ref h0, .int u1, .int u2, .int u3] (PreW G (tys6 cI cJ cZ cD cR cT) (va_pl L f0) sz)) (QT (po_X12_run kp L f0 h0 u1 u2 u3) G cI cJ cZ cD cR cT (va_A (va_pl L f0) sz) kp L) 0 0 (va_A (va_pl L f0) sz) := by
  refine metT (by decide) (Nat.le_of_ble_eq_true rfl) hTH ?_
  intro p e s m below meth c A ls E hW hl
  obtain ⟨hx, hb, -, hml, hown, hts, -, -, -⟩ := id E
  have hF : FM kp L ms_X12_run f0 f0 := FM.rf
  have hl : lv_has ls 8 [(0, .ref h0), (1, .int u1), (2, .int u2), (3, .int u3)] := hl
  obtain ⟨pR, mR⟩ : ∃ x : Nat, oR (f0 h0) 2 = x := ⟨_, rfl⟩
  have rR : RK kp L pR 822 := by rw [← mR]; exact th_ref hTH rh0 (by decide) (by decide) rfl
  rw [mR] at hSeg
  obtain ⟨hSa, hSe, d, hd0, hd⟩ := hSeg
  refine lv_aload_n hx hb dX12_run_0 rfl (lv_at hl 0 rfl) ?_
  refine lv_iconst (v := 0) hx hb dX12_run_1 (by decide) ?_
  refine fp_RX12_406 E hW rh0 (by decide) dX12_run_2 (fun f1 H locs e2 n3 g4 hW => ?_)
  have hF := FM.tr hF g4 rfl
  refine lv_iconst (v := 0) hx hb dX12_run_5 (by decide) ?_
  refine lv_istore (lv' := [(4, .int 0), (0, .ref h0), (1, .int u1), (2, .int u2), (3, .int u3)]) hx hb dX12_run_6 hl (by decide) rfl (fun ls hl => ?_)
  refine lv_iload_n hx hb dX12_run_8 rfl (lv_at hl 3 rfl) ?_
  refine lv_istore (lv' := [(5, .int u2), (4, .int 0), (0, .ref h0), (1, .int u1), (2, .int u2), (3, .int u3)]) hx hb dX12_run_9 hl (by decide) rfl (fun ls hl => ?_)
  have L10669 : ∀ (n : Nat), ∀ (f10661 : Nat → va_E) (y10663 : Int32) (y10665 : Int32) (m10662 : oR (f10661 h0) 2 = pR) (b10664 : (0 : Int) ≤ y10663.toInt ∧ y10663.toInt ≤ 400) (b10666 : (0 : Int) ≤ y10665.toInt ∧ y10665.toInt ≤ 400) (v10667 : d y10663.toInt ≤ y10665.toInt) (v10668 : u2.toInt ≤ y10663.toInt ∧ 0 ≤ y10665.toInt ∧ y10665.toInt ≤ y10663.toInt - u2.toInt) (hm : (401 : Int) - y10663.toInt ≤ n) (H : Heap) (locs : List Loc) (ls : Array Slot), WS G cI cJ cZ cD cR cT A kp L f10661 s H locs → FM kp L ms_X12_run f0 f10661 → lv_has ls 8 [(5, .int y10663), (4, .int y10665), (0, .ref h0), (1, .int u1), (2, .int u2), (3, .int u3)] → W p l e ({ frames := 2, cells := 0, slots := 0, locals := 65 }) s m ([.ref h0, .int u1, .int u2, .int u3] : List Value).toArray below meth c H locs 0 0 (MQ below (QT (po_X12_run kp L f0 h0 u1 u2 u3) G cI cJ cZ cD cR cT A kp L) ([.ref h0, .int u1, .int u2, .int u3] : List Value).toArray s 0 0 A) (F0 m 11 ls []) := by
    intro n
    induction n with
    | zero =>
      intro f10661 y10663 y10665 m10662 b10664 b10666 v10667 v10668 hm H locs ls hW hF hl
      exfalso; omega
    | succ n ih =>
      intro f10661 y10663 y10665 m10662 b10664 b10666 v10667 v10668 hm H locs ls hW hF hl
      have ih11 := ih
      refine lv_iload hx hb dX12_run_11 (lv_at hl 0 rfl) ?_
      refine lv_iload_n hx hb dX12_run_13 rfl (lv_at hl 5 rfl) ?_
      refine q_icmp_ge (tgt := 282) hx hb dX12_run_14 (by decide) rfl rfl (fun c10670 => ?_) (fun c10670 => ?_)
      · refine lv_aload_n hx hb dX12_run_282 rfl (lv_at hl 2 rfl) ?_
        refine lv_iload hx hb dX12_run_283 (lv_at hl 1 rfl) ?_
        refine q_if_le (tgt := 297) hx hb dX12_run_285 (by decide) rfl (fun c10671 => ?_) (fun c10671 => ?_)
        · refine lv_lconst (v := 0) hx hb dX12_run_297 (by decide) ?_
          refine fp_RX12_417 E hW rh0 dX12_run_298 (fun f10672 H locs e10673 n10674 g10675 hW => ?_)
          have hF := FM.tr hF g10675 rfl
          exact e_V E hW rfl ⟨rfl, hF⟩ dX12_run_301
        · refine lv_aload_n hx hb dX12_run_288 rfl (lv_at hl 2 rfl) ?_
          refine fg_RX12_64 E hW rh0 dX12_run_289 (fun a10676 m10677 r10678 => ?_)
          refine lv_iconst (v := 0) hx hb dX12_run_292 (by decide) ?_
          refine gl_852 E hW r10678 (by decide) dX12_run_293 (fun y10679 _ => ?_)
          refine lv_goto (tgt := 298) hx hb dX12_run_294 (by decide) ?_
          refine fp_RX12_417 E hW rh0 dX12_run_298 (fun f10680 H locs e10681 n10682 g10683 hW => ?_)
          have hF := FM.tr hF g10683 rfl
          exact e_V E hW rfl ⟨rfl, hF⟩ dX12_run_301
      · refine lv_aload_n hx hb dX12_run_17 rfl (lv_at hl 2 rfl) ?_
        refine fg_RX12_406 E hW rh0 dX12_run_18 (fun y10684 m10685 b10686 => ?_)
        refine q_if_ne (tgt := 282) hx hb dX12_run_21 (by decide) rfl (fun c10687 => ?_) (fun c10687 => ?_)
        · refine lv_aload_n hx hb dX12_run_282 rfl (lv_at hl 2 rfl) ?_
          refine lv_iload hx hb dX12_run_283 (lv_at hl 1 rfl) ?_
          refine q_if_le (tgt := 297) hx hb dX12_run_285 (by decide) rfl (fun c10688 => ?_) (fun c10688 => ?_)
          · refine lv_lconst (v := 0) hx hb dX12_run_297 (by decide) ?_
            refine fp_RX12_417 E hW rh0 dX12_run_298 (fun f10689 H locs e10690 n10691 g10692 hW => ?_)
            have hF := FM.tr hF g10692 rfl
            exact e_V E hW rfl ⟨rfl, hF⟩ dX12_run_301
          · refine lv_aload_n hx hb dX12_run_288 rfl (lv_at hl 2 rfl) ?_
            refine fg_RX12_64 E hW rh0 dX12_run_289 (fun a10693 m10694 r10695 => ?_)
            refine lv_iconst (v := 0) hx hb dX12_run_292 (by decide) ?_
            refine gl_852 E hW r10695 (by decide) dX12_run_293 (fun y10696 _ => ?_)
            refine lv_goto (tgt := 298) hx hb dX12_run_294 (by decide) ?_
            refine fp_RX12_417 E hW rh0 dX12_run_298 (fun f10697 H locs e10698 n10699 g10700 hW => ?_)
            have hF := FM.tr hF g10700 rfl
            exact e_V E hW rfl ⟨rfl, hF⟩ dX12_run_301
        · refine lv_aload_n hx hb dX12_run_24 rfl (lv_at hl 2 rfl) ?_
          refine fg_RX12_8 E hW rh0 dX12_run_25 (fun a10701 m10702 r10703 => ?_)
          obtain rfl : pR = a10701 := (m10662).symm.trans m10702
          refine lv_iload_n hx hb dX12_run_28 rfl (lv_at hl 3 rfl) ?_
          refine t_callS (As := [.int u1]) (rest := [.ref pR]) E hW (c_X12_textAt l G cI cJ cZ cD cR cT kp L f10661 hW.2.2.2 _ u1 (by omega)) wk_X12_textAt tw_1655 rfl ⟨Nat.le_of_ble_eq_true rfl, Nat.le_of_ble_eq_true rfl⟩ ⟨rfl, rfl⟩ hl.1 rfl (Nat.le_of_ble_eq_true rfl) dX12_run_29 ⟨Nat.le_of_ble_eq_true rfl, Nat.le_of_ble_eq_true rfl⟩ (fun v10704 f10705 H locs q10706 hW => ?_)
          obtain ⟨⟨x10708, rfl, p10709⟩, g10707⟩ := q10706
          have hF := FM.tr hF g10707 rfl
          refine lv_bipush (v := 98) hx hb dX12_run_32 (by decide) ?_
          refine q_iadd (Y := 98) hx hb dX12_run_34 rfl rfl (by omega) (fun x10710 h10711 => ?_)
          refine lv_iconst (v := 2) hx hb dX12_run_35 (by decide) ?_
          refine lv_iload hx hb dX12_run_36 (lv_at hl 0 rfl) ?_
          refine q_imul (X := 2) hx hb dX12_run_38 rfl rfl (by omega) (fun x10712 h10713 => ?_)
          refine q_iadd hx hb dX12_run_39 rfl rfl (by omega) (fun x10714 h10715 => ?_)
          refine gl_822 E hW rR ⟨by omega, by omega⟩ dX12_run_40 (fun y10716 m10717 b10718 => ?_)
          refine lv_istore (lv' := [(6, .int y10716), (5, .int y10663), (4, .int y10665), (0, .ref h0), (1, .int u1), (2, .int u2), (3, .int u3)]) hx hb dX12_run_41 hl (by decide) rfl (fun ls hl => ?_)
          refine lv_aload_n hx hb dX12_run_43 rfl (lv_at hl 3 rfl) ?_
          refine fg_RX12_8 E hW rh0 dX12_run_44 (fun a10719 m10720 r10721 => ?_)
          obtain rfl : pR = a10719 := (((fm_R g10707 rh0 rfl).trans m10702)).symm.trans m10720
          refine lv_iload_n hx hb dX12_run_47 rfl (lv_at hl 4 rfl) ?_
          refine t_callS (As := [.int u1]) (rest := [.ref pR]) E hW (c_X12_textAt l G cI cJ cZ cD cR cT kp L f10705 hW.2.2.2 _ u1 (by omega)) wk_X12_textAt tw_1655 rfl ⟨Nat.le_of_ble_eq_true rfl, Nat.le_of_ble_eq_true rfl⟩ ⟨rfl, rfl⟩ hl.1 rfl (Nat.le_of_ble_eq_true rfl) dX12_run_48 ⟨Nat.le_of_ble_eq_true rfl, Nat.le_of_ble_eq_true rfl⟩ (fun v10722 f10723 H locs q10724 hW => ?_)
          obtain ⟨⟨x10726, rfl, p10727⟩, g10725⟩ := q10724
          have hF := FM.tr hF g10725 rfl
          refine lv_bipush (v := 98) hx hb dX12_run_51 (by decide) ?_
          refine q_iadd (Y := 98) hx hb dX12_run_53 rfl rfl (by omega) (fun x10728 h10729 => ?_)
          refine lv_iconst (v := 2) hx hb dX12_run_54 (by decide) ?_
          refine lv_iload hx hb dX12_run_55 (lv_at hl 1 rfl) ?_
          refine q_imul (X := 2) hx hb dX12_run_57 rfl rfl (by omega) (fun x10730 h10731 => ?_)
          refine q_iadd hx hb dX12_run_58 rfl rfl (by omega) (fun x10732 h10733 => ?_)
          refine lv_iconst (v := 1) hx hb dX12_run_59 (by decide) ?_
          refine q_iadd (Y := 1) hx hb dX12_run_60 rfl rfl (by omega) (fun x10734 h10735 => ?_)
          refine gl_822 E hW rR ⟨by omega, by omega⟩ dX12_run_61 (fun y10736 m10737 b10738 => ?_)
          have m10746 : aI (f0 pR) (x10714 : Int32).toNatClampNeg = y10716 := by rw [← fm_A hF rR (by decide) rfl]; exact ((congrArg (fun z => aI z (x10714 : Int32).toNatClampNeg) (fm_A g10725 rR (by decide) rfl)).trans m10717)
          have m10747 : aI (f0 pR) (x10734 : Int32).toNatClampNeg = y10736 := by rw [← fm_A hF rR (by decide) rfl]; exact m10737
          obtain ⟨D10739, D10740, D10741, eD10742, eD10743, eD10744, q10745⟩ := seg_at (k := y10663) hd (by omega) (by omega) m10746 (by omega) (by omega) m10747 (by omega)
          have q10748 := v10667
          rw [eD10742] at q10748
          refine lv_istore (lv' := [(7, .int y10736), (6, .int y10716), (5, .int y10663), (4, .int y10665), (0, .ref h0), (1, .int u1), (2, .int u2), (3, .int u3)]) hx hb dX12_run_62 hl (by decide) rfl (fun ls hl => ?_)
          refine q_iinc hx hb dX12_run_64 hl (k := 2) rfl rfl rfl (by omega) (by decide) (fun i10749 ls h10750 hl => ?_)
          have hl : lv_has ls 8 [(5, .int i10749), (7, .int y10736), (6, .int y10716), (4, .int y10665), (0, .ref h0), (1, .int u1), (2, .int u2), (3, .int u3)] := hl
          refine lv_iload hx hb dX12_run_67 (lv_at hl 2 rfl) ?_
          refine lv_bipush (v := 20) hx hb dX12_run_69 (by decide) ?_
          refine q_icmp_ge (Y := 20) (tgt := 133) hx hb dX12_run_71 (by decide) rfl rfl (fun c10751 => ?_) (fun c10751 => ?_)
          · refine lv_iload hx hb dX12_run_133 (lv_at hl 2 rfl) ?_
            refine lv_bipush (v := 27) hx hb dX12_run_135 (by decide) ?_
            refine q_icmp_ge (Y := 27) (tgt := 214) hx hb dX12_run_137 (by decide) rfl rfl (fun c10752 => ?_) (fun c10752 => ?_)
            · refine lv_iload hx hb dX12_run_214 (lv_at hl 2 rfl) ?_
              refine lv_bipush (v := 27) hx hb dX12_run_216 (by decide) ?_
              refine q_icmp_ne (Y := 27) (tgt := 244) hx hb dX12_run_218 (by decide) rfl rfl (fun c10753 => ?_) (fun c10753 => ?_)
              · refine lv_aload_n hx hb dX12_run_244 rfl (lv_at hl 4 rfl) ?_
                refine fg_RX12_64 E hW rh0 dX12_run_245 (fun a10754 m10755 r10756 => ?_)
                refine lv_iload hx hb dX12_run_248 (lv_at hl 3 rfl) ?_
                refine lv_iconst (v := 1) hx hb dX12_run_250 (by decide) ?_
                refine q_isub (Y := 1) hx hb dX12_run_251 rfl rfl (by omega) (fun x10757 h10758 => ?_)
                refine gl_852 E hW r10756 ⟨by omega, by omega⟩ dX12_run_252 (fun y10759 _ => ?_)
                refine lv_iload hx hb dX12_run_253 (lv_at hl 2 rfl) ?_
                refine lv_bipush (v := 28) hx hb dX12_run_255 (by decide) ?_
                refine q_icmp_ne (Y := 28) (tgt := 264) hx hb dX12_run_257 (by decide) rfl rfl (fun c10760 => ?_) (fun c10760 => ?_)
                · refine lv_lconst (v := 1) hx hb dX12_run_264 (by decide) ?_
                  refine q_lcmp_ne (Y := 1) (tgt := 276) hx hb dX12_run_265 dX12_run_266 (by decide) rfl rfl (fun c10761 => ?_) (fun c10761 => ?_)
                  · refine q_iinc hx hb dX12_run_276 hl (k := 3) rfl rfl rfl (by omega) (by decide) (fun i10762 ls h10763 hl => ?_)
                    have hl : lv_has ls 8 [(4, .int i10762), (5, .int i10749), (7, .int y10736), (6, .int y10716), (0, .ref h0), (1, .int u1), (2, .int u2), (3, .int u3)] := hl
                    refine lv_goto (tgt := 11) hx hb dX12_run_279 (by decide) ?_
                    exact ih11 f10723 i10749 i10762 ((fm_R g10725 rh0 rfl).trans m10720) (by omega) (by omega) (by have e : i10749.toInt = y10663.toInt + 1 := (by omega); rw [e, eD10743]; omega) (by omega) (by omega) _ _ _ hW hF (lv_sub hl [1, 0, 4, 5, 6, 7] rfl)
                  · refine lv_iload hx hb dX12_run_269 (lv_at hl 1 rfl) ?_
                    refine lv_istore (lv' := [(5, .int y10736), (7, .int y10736), (6, .int y10716), (4, .int y10665), (0, .ref h0), (1, .int u1), (2, .int u2), (3, .int u3)]) hx hb dX12_run_271 hl (by decide) rfl (fun ls hl => ?_)
                    refine lv_goto (tgt := 279) hx hb dX12_run_273 (by decide) ?_
                    refine lv_goto (tgt := 11) hx hb dX12_run_279 (by decide) ?_
                    exact ih11 f10723 y10736 y10665 ((fm_R g10725 rh0 rfl).trans m10720) (by omega) (by omega) (by rw [eD10744]; omega) (by omega) (by omega) _ _ _ hW hF (lv_sub hl [0, 3, 4, 5, 6, 7] rfl)
                · refine lv_lconst (v := 0) hx hb dX12_run_260 (by decide) ?_
                  refine lv_goto (tgt := 265) hx hb dX12_run_261 (by decide) ?_
                  refine q_lcmp_ne (Y := 0) (tgt := 276) hx hb dX12_run_265 dX12_run_266 (by decide) rfl rfl (fun c10764 => ?_) (fun c10764 => ?_)
                  · refine q_iinc hx hb dX12_run_276 hl (k := 3) rfl rfl rfl (by omega) (by decide) (fun i10765 ls h10766 hl => ?_)
                    have hl : lv_has ls 8 [(4, .int i10765), (5, .int i10749), (7, .int y10736), (6, .int y10716), (0, .ref h0), (1, .int u1), (2, .int u2), (3, .int u3)] := hl
                    refine lv_goto (tgt := 11) hx hb dX12_run_279 (by decide) ?_
                    exact ih11 f10723 i10749 i10765 ((fm_R g10725 rh0 rfl).trans m10720) (by omega) (by omega) (by have e : i10749.toInt = y10663.toInt + 1 := (by omega); rw [e, eD10743]; omega) (by omega) (by omega) _ _ _ hW hF (lv_sub hl [1, 0, 4, 5, 6, 7] rfl)
                  · refine lv_iload hx hb dX12_run_269 (lv_at hl 1 rfl) ?_
                    refine lv_istore (lv' := [(5, .int y10736), (7, .int y10736), (6, .int y10716), (4, .int y10665), (0, .ref h0), (1, .int u1), (2, .int u2), (3, .int u3)]) hx hb dX12_run_271 hl (by decide) rfl (fun ls hl => ?_)
                    refine lv_goto (tgt := 279) hx hb dX12_run_273 (by decide) ?_
                    refine lv_goto (tgt := 11) hx hb dX12_run_279 (by decide) ?_
                    exact ih11 f10723 y10736 y10665 ((fm_R g10725 rh0 rfl).trans m10720) (by omega) (by omega) (by rw [eD10744]; omega) (by omega) (by omega) _ _ _ hW hF (lv_sub hl [0, 3, 4, 5, 6, 7] rfl)
              · refine lv_aload_n hx hb dX12_run_221 rfl (lv_at hl 4 rfl) ?_
                refine fg_RX12_64 E hW rh0 dX12_run_222 (fun a10767 m10768 r10769 => ?_)
                refine lv_iload hx hb dX12_run_225 (lv_at hl 3 rfl) ?_
                refine lv_iconst (v := 1) hx hb dX12_run_227 (by decide) ?_
                refine q_isub (Y := 1) hx hb dX12_run_228 rfl rfl (by omega) (fun x10770 h10771 => ?_)
                refine lv_lconst (v := 1) hx hb dX12_run_229 (by decide) ?_
                refine lv_aload_n hx hb dX12_run_230 rfl (lv_at hl 4 rfl) ?_
                refine fg_RX12_64 E hW rh0 dX12_run_231 (fun a10772 m10773 r10774 => ?_)
                obtain rfl : a10767 = a10772 := (m10768).symm.trans m10773
                refine lv_iload hx hb dX12_run_234 (lv_at hl 3 rfl) ?_
                refine lv_iconst (v := 1) hx hb dX12_run_236 (by decide) ?_
                refine q_isub (Y := 1) hx hb dX12_run_237 rfl rfl (by omega) (fun x10775 h10776 => ?_)
                refine gl_852 E hW r10769 ⟨by omega, by omega⟩ dX12_run_238 (fun y10777 _ => ?_)
                refine u_lsub hx hb dX12_run_239 (fun x10778 => ?_)
                refine gs_852 E hW r10769 ⟨by omega, by omega⟩ dX12_run_240 (fun f10779 H locs e10780 n10781 g10782 hW => ?_)
                have m10783 : aI (f10779 pR) (x10714 : Int32).toNatClampNeg = y10716 := ((congrArg (fun z => aI z (x10714 : Int32).toNatClampNeg) (fm_A g10782 rR (by decide) rfl)).trans ((congrArg (fun z => aI z (x10714 : Int32).toNatClampNeg) (fm_A g10725 rR (by decide) rfl)).trans m10717))
                have hF := FM.tr hF g10782 rfl
                refine lv_goto (tgt := 279) hx hb dX12_run_241 (by decide) ?_
                refine lv_goto (tgt := 11) hx hb dX12_run_279 (by decide) ?_
                exact ih11 f10779 i10749 y10665 ((fm_R g10782 rh0 rfl).trans ((fm_R g10725 rh0 rfl).trans m10720)) (by omega) (by omega) (by have e : i10749.toInt = y10663.toInt + 1 := (by omega); rw [e, eD10743]; omega) (by omega) (by omega) _ _ _ hW hF (lv_sub hl [0, 3, 4, 5, 6, 7] rfl)
            · refine q_iinc hx hb dX12_run_140 hl (k := 3) rfl rfl rfl (by omega) (by decide) (fun i10784 ls h10785 hl => ?_)
              have hl : lv_has ls 8 [(4, .int i10784), (5, .int i10749), (7, .int y10736), (6, .int y10716), (0, .ref h0), (1, .int u1), (2, .int u2), (3, .int u3)] := hl
              refine lv_aload_n hx hb dX12_run_143 rfl (lv_at hl 4 rfl) ?_
              refine fg_RX12_64 E hW rh0 dX12_run_144 (fun a10786 m10787 r10788 => ?_)
              refine lv_iload hx hb dX12_run_147 (lv_at hl 0 rfl) ?_
              refine lv_iconst (v := 1) hx hb dX12_run_149 (by decide) ?_
              refine q_isub (Y := 1) hx hb dX12_run_150 rfl rfl (by omega) (fun x10789 h10790 => ?_)
              refine lv_aload_n hx hb dX12_run_151 rfl (lv_at hl 4 rfl) ?_
              refine lv_iload hx hb dX12_run_152 (lv_at hl 3 rfl) ?_
              refine lv_aload_n hx hb dX12_run_154 rfl (lv_at hl 4 rfl) ?_
              refine fg_RX12_64 E hW rh0 dX12_run_155 (fun a10791 m10792 r10793 => ?_)
              obtain rfl : a10786 = a10791 := (m10787).symm.trans m10792
              refine lv_iload hx hb dX12_run_158 (lv_at hl 0 rfl) ?_
              refine lv_iconst (v := 1) hx hb dX12_run_160 (by decide) ?_
              refine q_isub (Y := 1) hx hb dX12_run_161 rfl rfl (by omega) (fun x10794 h10795 => ?_)
              refine gl_852 E hW r10788 ⟨by omega, by omega⟩ dX12_run_162 (fun y10796 _ => ?_)
              refine lv_aload_n hx hb dX12_run_163 rfl (lv_at hl 4 rfl) ?_
              refine fg_RX12_64 E hW rh0 dX12_run_164 (fun a10797 m10798 r10799 => ?_)
              obtain rfl : a10786 = a10797 := (m10792).symm.trans m10798
              refine lv_iload hx hb dX12_run_167 (lv_at hl 0 rfl) ?_
              refine gl_852 E hW r10788 ⟨by omega, by omega⟩ dX12_run_169 (fun y10800 _ => ?_)
              refine t_callV (As := [.int y10716, .long y10796, .long y10800]) (rest := [.int x10789, .ref a10786]) E hW (c_X12_reckon l G cI cJ cZ cD cR cT kp L f10723 hW.2.2.2 _ h0 y10716 y10796 y10800 rh0 (by omega)) rh0 (by decide) rfl wk_X12_reckon tw_1699 rfl ⟨Nat.le_of_ble_eq_true rfl, Nat.le_of_ble_eq_true rfl⟩ ⟨rfl, rfl⟩ hl.1 rfl (Nat.le_of_ble_eq_true rfl) dX12_run_170 ⟨Nat.le_of_ble_eq_true rfl, Nat.le_of_ble_eq_true rfl⟩ (fun v10801 f10802 H locs q10803 hW => ?_)
              obtain ⟨⟨x10805, rfl, p10806⟩, g10804⟩ := q10803
              clear p10806
              have m10807 : aI (f10802 pR) (x10714 : Int32).toNatClampNeg = y10716 := ((congrArg (fun z => aI z (x10714 : Int32).toNatClampNeg) (fm_A g10804 rR (by decide) rfl)).trans ((congrArg (fun z => aI z (x10714 : Int32).toNatClampNeg) (fm_A g10725 rR (by decide) rfl)).trans m10717))
              have hF := FM.tr hF g10804 rfl
              refine gs_852 E hW r10788 ⟨by omega, by omega⟩ dX12_run_173 (fun f10808 H locs e10809 n10810 g10811 hW => ?_)
              have m10812 : aI (f10808 pR) (x10734 : Int32).toNatClampNeg = y10736 := ((congrArg (fun z => aI z (x10734 : Int32).toNatClampNeg) (fm_A g10811 rR (by decide) rfl)).trans ((congrArg (fun z => aI z (x10734 : Int32).toNatClampNeg) (fm_A g10804 rR (by decide) rfl)).trans m10737))
              have hF := FM.tr hF g10811 rfl
              refine lv_aload_n hx hb dX12_run_174 rfl (lv_at hl 4 rfl) ?_
              refine lv_aload_n hx hb dX12_run_175 rfl (lv_at hl 4 rfl) ?_
              refine fg_RX12_406 E hW rh0 dX12_run_176 (fun y10813 m10814 b10815 => ?_)
              refine q_if_ne (tgt := 203) hx hb dX12_run_179 (by decide) rfl (fun c10816 => ?_) (fun c10816 => ?_)
              · refine lv_iconst (v := 1) hx hb dX12_run_203 (by decide) ?_
                refine lv_goto (tgt := 208) hx hb dX12_run_204 (by decide) ?_
                refine fp_RX12_406 E hW rh0 (by decide) dX12_run_208 (fun f10817 H locs e10818 n10819 g10820 hW => ?_)
                have m10821 : aI (f10817 pR) (x10714 : Int32).toNatClampNeg = y10716 := ((congrArg (fun z => aI z (x10714 : Int32).toNatClampNeg) (fm_A g10820 rR (by decide) rfl)).trans ((congrArg (fun z => aI z (x10714 : Int32).toNatClampNeg) (fm_A g10811 rR (by decide) rfl)).trans m10807))
                have hF := FM.tr hF g10820 rfl
                refine lv_goto (tgt := 279) hx hb dX12_run_211 (by decide) ?_
                refine lv_goto (tgt := 11) hx hb dX12_run_279 (by decide) ?_
                exact ih11 f10817 i10749 i10784 ((fm_R g10820 rh0 rfl).trans ((fm_R g10811 rh0 rfl).trans ((fm_R g10804 rh0 rfl).trans ((fm_R g10725 rh0 rfl).trans m10720)))) (by omega) (by omega) (by have e : i10749.toInt = y10663.toInt + 1 := (by omega); rw [e, eD10743]; omega) (by omega) (by omega) _ _ _ hW hF (lv_sub hl [1, 0, 4, 5, 6, 7] rfl)
              · refine lv_aload_n hx hb dX12_run_182 rfl (lv_at hl 4 rfl) ?_
                refine fg_RX12_64 E hW rh0 dX12_run_183 (fun a10822 m10823 r10824 => ?_)
                obtain rfl : a10786 = a10822 := (((fm_R g10811 rh0 rfl).trans ((fm_R g10804 rh0 rfl).trans m10798))).symm.trans m10823
                refine lv_iload hx hb dX12_run_186 (lv_at hl 0 rfl) ?_
                refine lv_iconst (v := 1) hx hb dX12_run_188 (by decide) ?_
                refine q_isub (Y := 1) hx hb dX12_run_189 rfl rfl (by omega) (fun x10825 h10826 => ?_)
                refine gl_852 E hW r10788 ⟨by omega, by omega⟩ dX12_run_190 (fun y10827 _ => ?_)
                refine lv_ldc2 (v := (-1000000000)) hx hb hown (hts _ tw_1697) dX12_run_191 ?_
                refine lv_ldc2 (v := 1000000000) hx hb hown (hts _ tw_1698) dX12_run_194 ?_
                refine t_callS (As := [.long y10827, .long (-1000000000), .long 1000000000]) (rest := [.ref h0]) E hW (c_X12_in l G cI cJ cZ cD cR cT kp L f10808 hW.2.2.2 _ y10827 (-1000000000) 1000000000) wk_X12_in tw_1554 rfl ⟨Nat.le_of_ble_eq_true rfl, Nat.le_of_ble_eq_true rfl⟩ ⟨rfl, rfl⟩ hl.1 rfl (Nat.le_of_ble_eq_true rfl) dX12_run_197 ⟨Nat.le_of_ble_eq_true rfl, Nat.le_of_ble_eq_true rfl⟩ (fun v10828 f10829 H locs q10830 hW => ?_)
                obtain ⟨⟨x10832, rfl, p10833⟩, g10831⟩ := q10830
                have p10833 : (x10832.toInt = 1 ∧ (-1000000000) ≤ y10827.toInt ∧ y10827.toInt ≤ 1000000000) ∨ (x10832.toInt = 0 ∧ (y10827.toInt < (-1000000000) ∨ 1000000000 < y10827.toInt)) := p10833
                have m10834 : aI (f10829 pR) (x10714 : Int32).toNatClampNeg = y10716 := ((congrArg (fun z => aI z (x10714 : Int32).toNatClampNeg) (fm_A g10831 rR (by decide) rfl)).trans ((congrArg (fun z => aI z (x10714 : Int32).toNatClampNeg) (fm_A g10811 rR (by decide) rfl)).trans m10807))
                have hF := FM.tr hF g10831 rfl
                refine q_if_ne (tgt := 207) hx hb dX12_run_200 (by decide) rfl (fun c10835 => ?_) (fun c10835 => ?_)
                · have q10836 : (-1000000000) ≤ y10827.toInt ∧ y10827.toInt ≤ 1000000000 := by omega
                  clear p10833
                  refine lv_iconst (v := 0) hx hb dX12_run_207 (by decide) ?_
                  refine fp_RX12_406 E hW rh0 (by decide) dX12_run_208 (fun f10837 H locs e10838 n10839 g10840 hW => ?_)
                  have m10841 : aI (f10837 pR) (x10734 : Int32).toNatClampNeg = y10736 := ((congrArg (fun z => aI z (x10734 : Int32).toNatClampNeg) (fm_A g10840 rR (by decide) rfl)).trans ((congrArg (fun z => aI z (x10734 : Int32).toNatClampNeg) (fm_A g10831 rR (by decide) rfl)).trans m10812))
                  have hF := FM.tr hF g10840 rfl
                  refine lv_goto (tgt := 279) hx hb dX12_run_211 (by decide) ?_
                  refine lv_goto (tgt := 11) hx hb dX12_run_279 (by decide) ?_
                  exact ih11 f10837 i10749 i10784 ((fm_R g10840 rh0 rfl).trans ((fm_R g10831 rh0 rfl).trans ((fm_R g10811 rh0 rfl).trans ((fm_R g10804 rh0 rfl).trans ((fm_R g10725 rh0 rfl).trans m10720))))) (by omega) (by omega) (by have e : i10749.toInt = y10663.toInt + 1 := (by omega); rw [e, eD10743]; omega) (by omega) (by omega) _ _ _ hW hF (lv_sub hl [1, 0, 4, 5, 6, 7] rfl)
                · have q10842 : (y10827.toInt < (-1000000000) ∨ 1000000000 < y10827.toInt) := by omega
                  clear p10833
                  refine lv_iconst (v := 1) hx hb dX12_run_203 (by decide) ?_
                  refine lv_goto (tgt := 208) hx hb dX12_run_204 (by decide) ?_
                  refine fp_RX12_406 E hW rh0 (by decide) dX12_run_208 (fun f10843 H locs e10844 n10845 g10846 hW => ?_)
                  have m10847 : aI (f10843 pR) (x10734 : Int32).toNatClampNeg = y10736 := ((congrArg (fun z => aI z (x10734 : Int32).toNatClampNeg) (fm_A g10846 rR (by decide) rfl)).trans ((congrArg (fun z => aI z (x10734 : Int32).toNatClampNeg) (fm_A g10831 rR (by decide) rfl)).trans m10812))
                  have hF := FM.tr hF g10846 rfl
                  refine lv_goto (tgt := 279) hx hb dX12_run_211 (by decide) ?_
                  refine lv_goto (tgt := 11) hx hb dX12_run_279 (by decide) ?_
                  exact ih11 f10843 i10749 i10784 ((fm_R g10846 rh0 rfl).trans ((fm_R g10831 rh0 rfl).trans ((fm_R g10811 rh0 rfl).trans ((fm_R g10804 rh0 rfl).trans ((fm_R g10725 rh0 rfl).trans m10720))))) (by omega) (by omega) (by have e : i10749.toInt = y10663.toInt + 1 := (by omega); rw [e, eD10743]; omega) (by omega) (by omega) _ _ _ hW hF (lv_sub hl [1, 0, 4, 5, 6, 7] rfl)
          · refine lv_aload_n hx hb dX12_run_74 rfl (lv_at hl 4 rfl) ?_
            refine fg_RX12_64 E hW rh0 dX12_run_75 (fun a10848 m10849 r10850 => ?_)
            refine lv_iload hx hb dX12_run_78 (lv_at hl 3 rfl) ?_
            refine lv_iload hx hb dX12_run_80 (lv_at hl 2 rfl) ?_
            refine q_if_ne (tgt := 91) hx hb dX12_run_82 (by decide) rfl (fun c10851 => ?_) (fun c10851 => ?_)
            · refine lv_aload_n hx hb dX12_run_91 rfl (lv_at hl 4 rfl) ?_
              refine fg_RX12_60 E hW rh0 dX12_run_92 (fun a10852 m10853 r10854 => ?_)
              refine lv_iload hx hb dX12_run_95 (lv_at hl 2 rfl) ?_
              refine gl_851 E hW r10854 ⟨by omega, by omega⟩ dX12_run_97 (fun y10855 _ => ?_)
              refine gs_852 E hW r10850 ⟨by omega, by omega⟩ dX12_run_98 (fun f10856 H locs e10857 n10858 g10859 hW => ?_)
              have m10860 : aI (f10856 pR) (x10714 : Int32).toNatClampNeg = y10716 := ((congrArg (fun z => aI z (x10714 : Int32).toNatClampNeg) (fm_A g10859 rR (by decide) rfl)).trans ((congrArg (fun z => aI z (x10714 : Int32).toNatClampNeg) (fm_A g10725 rR (by decide) rfl)).trans m10717))
              have hF := FM.tr hF g10859 rfl
              refine lv_aload_n hx hb dX12_run_99 rfl (lv_at hl 4 rfl) ?_
              refine lv_aload_n hx hb dX12_run_100 rfl (lv_at hl 4 rfl) ?_
              refine fg_RX12_64 E hW rh0 dX12_run_101 (fun a10861 m10862 r10863 => ?_)
              obtain rfl : a10848 = a10861 := (((fm_R g10859 rh0 rfl).trans m10849)).symm.trans m10862
              refine lv_iload hx hb dX12_run_104 (lv_at hl 3 rfl) ?_
              refine gl_852 E hW r10850 ⟨by omega, by omega⟩ dX12_run_106 (fun y10864 _ => ?_)
              refine lv_ldc2 (v := (-1000000000)) hx hb hown (hts _ tw_1697) dX12_run_107 ?_
              refine lv_ldc2 (v := 1000000000) hx hb hown (hts _ tw_1698) dX12_run_110 ?_
              refine t_callS (As := [.long y10864, .long (-1000000000), .long 1000000000]) (rest := [.ref h0]) E hW (c_X12_in l G cI cJ cZ cD cR cT kp L f10856 hW.2.2.2 _ y10864 (-1000000000) 1000000000) wk_X12_in tw_1554 rfl ⟨Nat.le_of_ble_eq_true rfl, Nat.le_of_ble_eq_true rfl⟩ ⟨rfl, rfl⟩ hl.1 rfl (Nat.le_of_ble_eq_true rfl) dX12_run_113 ⟨Nat.le_of_ble_eq_true rfl, Nat.le_of_ble_eq_true rfl⟩ (fun v10865 f10866 H locs q10867 hW => ?_)
              obtain ⟨⟨x10869, rfl, p10870⟩, g10868⟩ := q10867
              have p10870 : (x10869.toInt = 1 ∧ (-1000000000) ≤ y10864.toInt ∧ y10864.toInt ≤ 1000000000) ∨ (x10869.toInt = 0 ∧ (y10864.toInt < (-1000000000) ∨ 1000000000 < y10864.toInt)) := p10870
              have m10871 : aI (f10866 pR) (x10734 : Int32).toNatClampNeg = y10736 := ((congrArg (fun z => aI z (x10734 : Int32).toNatClampNeg) (fm_A g10868 rR (by decide) rfl)).trans ((congrArg (fun z => aI z (x10734 : Int32).toNatClampNeg) (fm_A g10859 rR (by decide) rfl)).trans m10737))
              have hF := FM.tr hF g10868 rfl
              refine q_if_ne (tgt := 123) hx hb dX12_run_116 (by decide) rfl (fun c10872 => ?_) (fun c10872 => ?_)
              · have q10873 : (-1000000000) ≤ y10864.toInt ∧ y10864.toInt ≤ 1000000000 := by omega
                clear p10870
                refine lv_iconst (v := 0) hx hb dX12_run_123 (by decide) ?_
                refine fp_RX12_406 E hW rh0 (by decide) dX12_run_124 (fun f10874 H locs e10875 n10876 g10877 hW => ?_)
                have m10878 : aI (f10874 pR) (x10714 : Int32).toNatClampNeg = y10716 := ((congrArg (fun z => aI z (x10714 : Int32).toNatClampNeg) (fm_A g10877 rR (by decide) rfl)).trans ((congrArg (fun z => aI z (x10714 : Int32).toNatClampNeg) (fm_A g10868 rR (by decide) rfl)).trans m10860))
                have hF := FM.tr hF g10877 rfl
                refine q_iinc hx hb dX12_run_127 hl (k := 3) rfl rfl rfl (by omega) (by decide) (fun i10879 ls h10880 hl => ?_)
                have hl : lv_has ls 8 [(4, .int i10879), (5, .int i10749), (7, .int y10736), (6, .int y10716), (0, .ref h0), (1, .int u1), (2, .int u2), (3, .int u3)] := hl
                refine lv_goto (tgt := 279) hx hb dX12_run_130 (by decide) ?_
                refine lv_goto (tgt := 11) hx hb dX12_run_279 (by decide) ?_
                exact ih11 f10874 i10749 i10879 ((fm_R g10877 rh0 rfl).trans ((fm_R g10868 rh0 rfl).trans ((fm_R g10859 rh0 rfl).trans ((fm_R g10725 rh0 rfl).trans m10720)))) (by omega) (by omega) (by have e : i10749.toInt = y10663.toInt + 1 := (by omega); rw [e, eD10743]; omega) (by omega) (by omega) _ _ _ hW hF (lv_sub hl [1, 0, 4, 5, 6, 7] rfl)
              · have q10881 : (y10864.toInt < (-1000000000) ∨ 1000000000 < y10864.toInt) := by omega
                clear p10870
                refine lv_iconst (v := 1) hx hb dX12_run_119 (by decide) ?_
                refine lv_goto (tgt := 124) hx hb dX12_run_120 (by decide) ?_
                refine fp_RX12_406 E hW rh0 (by decide) dX12_run_124 (fun f10882 H locs e10883 n10884 g10885 hW => ?_)
                have m10886 : aI (f10882 pR) (x10714 : Int32).toNatClampNeg = y10716 := ((congrArg (fun z => aI z (x10714 : Int32).toNatClampNeg) (fm_A g10885 rR (by decide) rfl)).trans ((congrArg (fun z => aI z (x10714 : Int32).toNatClampNeg) (fm_A g10868 rR (by decide) rfl)).trans m10860))
                have hF := FM.tr hF g10885 rfl
                refine q_iinc hx hb dX12_run_127 hl (k := 3) rfl rfl rfl (by omega) (by decide) (fun i10887 ls h10888 hl => ?_)
                have hl : lv_has ls 8 [(4, .int i10887), (5, .int i10749), (7, .int y10736), (6, .int y10716), (0, .ref h0), (1, .int u1), (2, .int u2), (3, .int u3)] := hl
                refine lv_goto (tgt := 279) hx hb dX12_run_130 (by decide) ?_
                refine lv_goto (tgt := 11) hx hb dX12_run_279 (by decide) ?_
                exact ih11 f10882 i10749 i10887 ((fm_R g10885 rh0 rfl).trans ((fm_R g10868 rh0 rfl).trans ((fm_R g10859 rh0 rfl).trans ((fm_R g10725 rh0 rfl).trans m10720)))) (by omega) (by omega) (by have e : i10749.toInt = y10663.toInt + 1 := (by omega); rw [e, eD10743]; omega) (by omega) (by omega) _ _ _ hW hF (lv_sub hl [1, 0, 4, 5, 6, 7] rfl)
            · refine lv_iload hx hb dX12_run_85 (lv_at hl 1 rfl) ?_
              refine q_i2l hx hb dX12_run_87 rfl (fun x10889 h10890 => ?_)
              have hb10891 : -2147483648 ≤ x10889.toInt ∧ x10889.toInt ≤ 2147483647 := by have := i32_b y10736; omega
              refine lv_goto (tgt := 98) hx hb dX12_run_88 (by decide) ?_
              refine gs_852 E hW r10850 ⟨by omega, by omega⟩ dX12_run_98 (fun f10892 H locs e10893 n10894 g10895 hW => ?_)
              have m10896 : aI (f10892 pR) (x10714 : Int32).toNatClampNeg = y10716 := ((congrArg (fun z => aI z (x10714 : Int32).toNatClampNeg) (fm_A g10895 rR (by decide) rfl)).trans ((congrArg (fun z => aI z (x10714 : Int32).toNatClampNeg) (fm_A g10725 rR (by decide) rfl)).trans m10717))
              have hF := FM.tr hF g10895 rfl
              refine lv_aload_n hx hb dX12_run_99 rfl (lv_at hl 4 rfl) ?_
              refine lv_aload_n hx hb dX12_run_100 rfl (lv_at hl 4 rfl) ?_
              refine fg_RX12_64 E hW rh0 dX12_run_101 (fun a10897 m10898 r10899 => ?_)
              obtain rfl : a10848 = a10897 := (((fm_R g10895 rh0 rfl).trans m10849)).symm.trans m10898
              refine lv_iload hx hb dX12_run_104 (lv_at hl 3 rfl) ?_
              refine gl_852 E hW r10850 ⟨by omega, by omega⟩ dX12_run_106 (fun y10900 _ => ?_)
              refine lv_ldc2 (v := (-1000000000)) hx hb hown (hts _ tw_1697) dX12_run_107 ?_
              refine lv_ldc2 (v := 1000000000) hx hb hown (hts _ tw_1698) dX12_run_110 ?_
              refine t_callS (As := [.long y10900, .long (-1000000000), .long 1000000000]) (rest := [.ref h0]) E hW (c_X12_in l G cI cJ cZ cD cR cT kp L f10892 hW.2.2.2 _ y10900 (-1000000000) 1000000000) wk_X12_in tw_1554 rfl ⟨Nat.le_of_ble_eq_true rfl, Nat.le_of_ble_eq_true rfl⟩ ⟨rfl, rfl⟩ hl.1 rfl (Nat.le_of_ble_eq_true rfl) dX12_run_113 ⟨Nat.le_of_ble_eq_true rfl, Nat.le_of_ble_eq_true rfl⟩ (fun v10901 f10902 H locs q10903 hW => ?_)
              obtain ⟨⟨x10905, rfl, p10906⟩, g10904⟩ := q10903
              have p10906 : (x10905.toInt = 1 ∧ (-1000000000) ≤ y10900.toInt ∧ y10900.toInt ≤ 1000000000) ∨ (x10905.toInt = 0 ∧ (y10900.toInt < (-1000000000) ∨ 1000000000 < y10900.toInt)) := p10906
              have m10907 : aI (f10902 pR) (x10734 : Int32).toNatClampNeg = y10736 := ((congrArg (fun z => aI z (x10734 : Int32).toNatClampNeg) (fm_A g10904 rR (by decide) rfl)).trans ((congrArg (fun z => aI z (x10734 : Int32).toNatClampNeg) (fm_A g10895 rR (by decide) rfl)).trans m10737))
              have hF := FM.tr hF g10904 rfl
              refine q_if_ne (tgt := 123) hx hb dX12_run_116 (by decide) rfl (fun c10908 => ?_) (fun c10908 => ?_)
              · have q10909 : (-1000000000) ≤ y10900.toInt ∧ y10900.toInt ≤ 1000000000 := by omega
                clear p10906
                refine lv_iconst (v := 0) hx hb dX12_run_123 (by decide) ?_
                refine fp_RX12_406 E hW rh0 (by decide) dX12_run_124 (fun f10910 H locs e10911 n10912 g10913 hW => ?_)
                have m10914 : aI (f10910 pR) (x10714 : Int32).toNatClampNeg = y10716 := ((congrArg (fun z => aI z (x10714 : Int32).toNatClampNeg) (fm_A g10913 rR (by decide) rfl)).trans ((congrArg (fun z => aI z (x10714 : Int32).toNatClampNeg) (fm_A g10904 rR (by decide) rfl)).trans m10896))
                have hF := FM.tr hF g10913 rfl
                refine q_iinc hx hb dX12_run_127 hl (k := 3) rfl rfl rfl (by omega) (by decide) (fun i10915 ls h10916 hl => ?_)
                have hl : lv_has ls 8 [(4, .int i10915), (5, .int i10749), (7, .int y10736), (6, .int y10716), (0, .ref h0), (1, .int u1), (2, .int u2), (3, .int u3)] := hl
                refine lv_goto (tgt := 279) hx hb dX12_run_130 (by decide) ?_
                refine lv_goto (tgt := 11) hx hb dX12_run_279 (by decide) ?_
                exact ih11 f10910 i10749 i10915 ((fm_R g10913 rh0 rfl).trans ((fm_R g10904 rh0 rfl).trans ((fm_R g10895 rh0 rfl).trans ((fm_R g10725 rh0 rfl).trans m10720)))) (by omega) (by omega) (by have e : i10749.toInt = y10663.toInt + 1 := (by omega); rw [e, eD10743]; omega) (by omega) (by omega) _ _ _ hW hF (lv_sub hl [1, 0, 4, 5, 6, 7] rfl)
              · have q10917 : (y10900.toInt < (-1000000000) ∨ 1000000000 < y10900.toInt) := by omega
                clear p10906
                refine lv_iconst (v := 1) hx hb dX12_run_119 (by decide) ?_
                refine lv_goto (tgt := 124) hx hb dX12_run_120 (by decide) ?_
                refine fp_RX12_406 E hW rh0 (by decide) dX12_run_124 (fun f10918 H locs e10919 n10920 g10921 hW => ?_)
                have m10922 : aI (f10918 pR) (x10714 : Int32).toNatClampNeg = y10716 := ((congrArg (fun z => aI z (x10714 : Int32).toNatClampNeg) (fm_A g10921 rR (by decide) rfl)).trans ((congrArg (fun z => aI z (x10714 : Int32).toNatClampNeg) (fm_A g10904 rR (by decide) rfl)).trans m10896))
                have hF := FM.tr hF g10921 rfl
                refine q_iinc hx hb dX12_run_127 hl (k := 3) rfl rfl rfl (by omega) (by decide) (fun i10923 ls h10924 hl => ?_)
                have hl : lv_has ls 8 [(4, .int i10923), (5, .int i10749), (7, .int y10736), (6, .int y10716), (0, .ref h0), (1, .int u1), (2, .int u2), (3, .int u3)] := hl
                refine lv_goto (tgt := 279) hx hb dX12_run_130 (by decide) ?_
                refine lv_goto (tgt := 11) hx hb dX12_run_279 (by decide) ?_
                exact ih11 f10918 i10749 i10923 ((fm_R g10921 rh0 rfl).trans ((fm_R g10904 rh0 rfl).trans ((fm_R g10895 rh0 rfl).trans ((fm_R g10725 rh0 rfl).trans m10720)))) (by omega) (by omega) (by have e : i10749.toInt = y10663.toInt + 1 := (by omega); rw [e, eD10743]; omega) (by omega) (by omega) _ _ _ hW hF (lv_sub hl [1, 0, 4, 5, 6, 7] rfl)
  have hk10925 : (0 : Int32).toInt = 0 := rfl
  exact L10669 401 f1 u2 0 ((fm_R g4 rh0 rfl).trans mR) (by omega) (by decide) (by have hk : (0 : Int32).toInt = 0 := rfl; exact Int.le_trans hd0 (by omega)) (by have hk : (0 : Int32).toInt = 0 := rfl; omega) (by omega) _ _ _ hW hF (lv_sub hl [0, 1, 2, 3, 4, 5] rfl)
def ms_X12_isSo : List (Nat × Nat) := [(12, 33), (12, 34), (12, 35), (852, 0)]
def po_X12_isSo (kp : Nat → Nat) (L : List Nat) (f0 : Nat → va_E) (h0 : Nat) (u1 : Int32) (u2 : Int32) : Option Value → (Nat → va_E) → Prop := fun v f => (∃ r : Int32, v = some (.int r) ∧ ((0 : Int) ≤ r.toInt ∧ r.toInt ≤ 1)) ∧ FM kp L ms_X12_isSo f0 f
set_option maxHeartbeats 4000000 in
set_option maxRecDepth 100000 in
theorem c_X12_isSo (l : Launch) (G : va_G) (cI cJ cZ cD cR cT : ClassId) (kp : Nat → Nat) (L : List Nat) (f0 : Nat → va_E) (hTH : TH cI cJ cZ cD cR cT kp L f0) (sz : Nat) (h0 : Nat) (u1 : Int32) (u2 : Int32) (rh0 : RK kp L h0 12) (pu1 : (0 : Int) ≤ u1.toInt ∧ u1.toInt ≤ 19) (pu2 : (0 : Int) ≤ u2.toInt ∧ u2.toInt ≤ 11) (hCl : u1.toInt < (aI (f0 (oR (f0 h0) 2)) 3).toInt ∧ u2.toInt < (aI (f0 (oR (f0 h0) 2)) (17983 + 898 * u1.toInt).toNat).toInt) (hTX : TX (aI (f0 (oR (f0 h0) 2)))) : Met l yX12_isSo (Cond.code yX12_isSo cX12_isSo 4 (some .boolean) :: wTab) ({ frames := 3, cells := 0, slots := 0, locals := 92 }) (va_Pc [.ref h0, .int u1, .int u2] (PreW G (tys6 cI cJ cZ cD cR cT) (va_pl L f0) sz)) (QT (po_X12_isSo kp L f0 h0 u1 u2) G cI cJ cZ cD cR cT (va_A (va_pl L f0) sz) kp L) 0 0 (va_A (va_pl L f0) sz) := by
  refine metT (by decide) (Nat.le_of_ble_eq_true rfl) hTH ?_
  intro p e s m below meth c A ls E hW hl
  obtain ⟨hx, hb, -, hml, hown, hts, -, -, -⟩ := id E
  have hF : FM kp L ms_X12_isSo f0 f0 := FM.rf
  have hl : lv_has ls 4 [(0, .ref h0), (1, .int u1), (2, .int u2)] := hl
  obtain ⟨pR, mR⟩ : ∃ x : Nat, oR (f0 h0) 2 = x := ⟨_, rfl⟩
  have rR : RK kp L pR 822 := by rw [← mR]; exact th_ref hTH rh0 (by decide) (by decide) rfl
  rw [mR] at hCl
  rw [mR] at hTX
  refine lv_iload_n hx hb dX12_isSo_0 rfl (lv_at hl 1 rfl) ?_
  refine lv_iload_n hx hb dX12_isSo_1 rfl (lv_at hl 2 rfl) ?_
  refine t_callS (As := [.int u1, .int u2]) (rest := []) E hW (c_X12_clauseAt l G cI cJ cZ cD cR cT kp L f0 hW.2.2.2 _ u1 u2 (by omega) (by omega)) wk_X12_clauseAt tw_1658 rfl ⟨Nat.le_of_ble_eq_true rfl, Nat.le_of_ble_eq_true rfl⟩ ⟨rfl, rfl⟩ hl.1 rfl (Nat.le_of_ble_eq_true rfl) dX12_isSo_2 ⟨Nat.le_of_ble_eq_true rfl, Nat.le_of_ble_eq_true rfl⟩ (fun v1 f2 H locs q3 hW => ?_)
  obtain ⟨⟨x5, rfl, p6⟩, g4⟩ := q3
  have hF := FM.tr hF g4 rfl
  refine lv_istore_n (lv' := [(3, .int x5), (0, .ref h0), (1, .int u1), (2, .int u2)]) hx hb dX12_isSo_5 rfl hl (by decide) rfl (fun ls hl => ?_)
  refine lv_aload_n hx hb dX12_isSo_6 rfl (lv_at hl 1 rfl) ?_
  refine fg_RX12_8 E hW rh0 dX12_isSo_7 (fun a7 m8 r9 => ?_)
  obtain rfl : pR = a7 := (((fm_R g4 rh0 rfl).trans mR)).symm.trans m8
  refine lv_iload_n hx hb dX12_isSo_10 rfl (lv_at hl 0 rfl) ?_
  refine lv_iconst (v := 5) hx hb dX12_isSo_11 (by decide) ?_
  refine q_iadd (Y := 5) hx hb dX12_isSo_12 rfl rfl (by omega) (fun x10 h11 => ?_)
  refine gl_822 E hW rR ⟨by omega, by omega⟩ dX12_isSo_13 (fun y12 m13 b14 => ?_)
  refine lv_aload_n hx hb dX12_isSo_14 rfl (lv_at hl 1 rfl) ?_
  refine fg_RX12_8 E hW rh0 dX12_isSo_15 (fun a15 m16 r17 => ?_)
  obtain rfl : pR = a15 := (m8).symm.trans m16
  refine lv_iload_n hx hb dX12_isSo_18 rfl (lv_at hl 0 rfl) ?_
  refine lv_bipush (v := 6) hx hb dX12_isSo_19 (by decide) ?_
  refine q_iadd (Y := 6) hx hb dX12_isSo_21 rfl rfl (by omega) (fun x18 h19 => ?_)
  refine gl_822 E hW rR ⟨by omega, by omega⟩ dX12_isSo_22 (fun y20 m21 b22 => ?_)
  refine q_icmp_ge (tgt := 66) hx hb dX12_isSo_23 (by decide) rfl rfl (fun c23 => ?_) (fun c23 => ?_)
  · refine lv_aload_n hx hb dX12_isSo_66 rfl (lv_at hl 1 rfl) ?_
    refine lv_iload_n hx hb dX12_isSo_67 rfl (lv_at hl 2 rfl) ?_
    refine lv_aload_n hx hb dX12_isSo_68 rfl (lv_at hl 1 rfl) ?_
    refine fg_RX12_8 E hW rh0 dX12_isSo_69 (fun a24 m25 r26 => ?_)
    obtain rfl : pR = a24 := (m16).symm.trans m25
    refine lv_iload_n hx hb dX12_isSo_72 rfl (lv_at hl 0 rfl) ?_
    refine lv_iconst (v := 3) hx hb dX12_isSo_73 (by decide) ?_
    refine q_iadd (Y := 3) hx hb dX12_isSo_74 rfl rfl (by omega) (fun x27 h28 => ?_)
    refine gl_822 E hW rR ⟨by omega, by omega⟩ dX12_isSo_75 (fun y29 m30 b31 => ?_)
    refine lv_aload_n hx hb dX12_isSo_76 rfl (lv_at hl 1 rfl) ?_
    refine fg_RX12_8 E hW rh0 dX12_isSo_77 (fun a32 m33 r34 => ?_)
    obtain rfl : pR = a32 := (m25).symm.trans m33
    refine lv_iload_n hx hb dX12_isSo_80 rfl (lv_at hl 0 rfl) ?_
    refine lv_iconst (v := 4) hx hb dX12_isSo_81 (by decide) ?_
    refine q_iadd (Y := 4) hx hb dX12_isSo_82 rfl rfl (by omega) (fun x35 h36 => ?_)
    refine gl_822 E hW rR ⟨by omega, by omega⟩ dX12_isSo_83 (fun y37 m38 b39 => ?_)
    refine t_callV (As := [.int u1, .int y29, .int y37]) (rest := []) E hW (c_X12_run l G cI cJ cZ cD cR cT kp L f2 hW.2.2.2 _ h0 u1 y29 y37 rh0 (by omega) (by rw [m33]; exact tx_g (t := u1) (c := u2) (by rw [fm_A hF rR (by decide) rfl]; exact hTX) (by omega) (show u1.toInt < (aI (f2 pR) 3).toInt ∧ u2.toInt < (aI (f2 pR) (17983 + 898 * u1.toInt).toNat).toInt from (by rw [fm_A hF rR (by decide) rfl]; exact hCl)).1 (by omega) (show u1.toInt < (aI (f2 pR) 3).toInt ∧ u2.toInt < (aI (f2 pR) (17983 + 898 * u1.toInt).toNat).toInt from (by rw [fm_A hF rR (by decide) rfl]; exact hCl)).2 m30 (by omega) m38 (by omega))) rh0 (by decide) rfl wk_X12_run tw_1693 rfl ⟨Nat.le_of_ble_eq_true rfl, Nat.le_of_ble_eq_true rfl⟩ ⟨rfl, rfl⟩ hl.1 rfl (Nat.le_of_ble_eq_true rfl) dX12_isSo_84 ⟨Nat.le_of_ble_eq_true rfl, Nat.le_of_ble_eq_true rfl⟩ (fun v40 f41 H locs q42 hW => ?_)
    obtain ⟨rfl, g43⟩ := q42
    have hF := FM.tr hF g43 rfl
    refine lv_aload_n hx hb dX12_isSo_87 rfl (lv_at hl 1 rfl) ?_
    refine lv_aload_n hx hb dX12_isSo_88 rfl (lv_at hl 1 rfl) ?_
    refine fg_RX12_417 E hW rh0 dX12_isSo_89 (fun y44 m45 => ?_)
    refine fp_RX12_424 E hW rh0 dX12_isSo_92 (fun f46 H locs e47 n48 g49 hW => ?_)
    have m50 : aI (f46 pR) (x10 : Int32).toNatClampNeg = y12 := ((congrArg (fun z => aI z (x10 : Int32).toNatClampNeg) (fm_A g49 rR (by decide) rfl)).trans ((congrArg (fun z => aI z (x10 : Int32).toNatClampNeg) (fm_A g43 rR (by decide) rfl)).trans m13))
    have m51 : aI (f46 pR) (x18 : Int32).toNatClampNeg = y20 := ((congrArg (fun z => aI z (x18 : Int32).toNatClampNeg) (fm_A g49 rR (by decide) rfl)).trans ((congrArg (fun z => aI z (x18 : Int32).toNatClampNeg) (fm_A g43 rR (by decide) rfl)).trans m21))
    have m52 : aI (f46 pR) (x27 : Int32).toNatClampNeg = y29 := ((congrArg (fun z => aI z (x27 : Int32).toNatClampNeg) (fm_A g49 rR (by decide) rfl)).trans ((congrArg (fun z => aI z (x27 : Int32).toNatClampNeg) (fm_A g43 rR (by decide) rfl)).trans m30))
    have m53 : aI (f46 pR) (x35 : Int32).toNatClampNeg = y37 := ((congrArg (fun z => aI z (x35 : Int32).toNatClampNeg) (fm_A g49 rR (by decide) rfl)).trans ((congrArg (fun z => aI z (x35 : Int32).toNatClampNeg) (fm_A g43 rR (by decide) rfl)).trans m38))
    have hF := FM.tr hF g49 rfl
    refine lv_aload_n hx hb dX12_isSo_95 rfl (lv_at hl 1 rfl) ?_
    refine fg_RX12_406 E hW rh0 dX12_isSo_96 (fun y54 m55 b56 => ?_)
    refine q_if_ne (tgt := 106) hx hb dX12_isSo_99 (by decide) rfl (fun c57 => ?_) (fun c57 => ?_)
    · refine lv_iconst (v := 0) hx hb dX12_isSo_106 (by decide) ?_
      exact e_Z E hW rfl (by decide) ⟨⟨_, rfl, (by have hk : (0 : Int32).toInt = 0 := rfl; first | decide | omega)⟩, hF⟩ dX12_isSo_107
    · refine lv_iconst (v := 1) hx hb dX12_isSo_102 (by decide) ?_
      refine lv_goto (tgt := 107) hx hb dX12_isSo_103 (by decide) ?_
      exact e_Z E hW rfl (by decide) ⟨⟨_, rfl, (by have hk : (1 : Int32).toInt = 1 := rfl; first | decide | omega)⟩, hF⟩ dX12_isSo_107
  · have hb58 : y12.toInt ≤ 2147483646 := by have := i32_b y20; omega
    have hb59 : -2147483647 ≤ y20.toInt := by have := i32_b y12; omega
    refine lv_aload_n hx hb dX12_isSo_26 rfl (lv_at hl 1 rfl) ?_
    refine lv_iload_n hx hb dX12_isSo_27 rfl (lv_at hl 2 rfl) ?_
    refine lv_aload_n hx hb dX12_isSo_28 rfl (lv_at hl 1 rfl) ?_
    refine fg_RX12_8 E hW rh0 dX12_isSo_29 (fun a60 m61 r62 => ?_)
    obtain rfl : pR = a60 := (m16).symm.trans m61
    refine lv_iload_n hx hb dX12_isSo_32 rfl (lv_at hl 0 rfl) ?_
    refine lv_iconst (v := 5) hx hb dX12_isSo_33 (by decide) ?_
    refine q_iadd (Y := 5) hx hb dX12_isSo_34 rfl rfl (by omega) (fun x63 h64 => ?_)
    refine gl_822 E hW rR ⟨by omega, by omega⟩ dX12_isSo_35 (fun y65 m66 b67 => ?_)
    have m68 : aI (f2 pR) (x63 : Int32).toNatClampNeg = y12 := by rw [show (x63 : Int32) = x10 from Int32.toInt_inj.mp (by omega)]; exact m13
    obtain rfl : y12 = y65 := (m68).symm.trans m66
    refine lv_aload_n hx hb dX12_isSo_36 rfl (lv_at hl 1 rfl) ?_
    refine fg_RX12_8 E hW rh0 dX12_isSo_37 (fun a69 m70 r71 => ?_)
    obtain rfl : pR = a69 := (m61).symm.trans m70
    refine lv_iload_n hx hb dX12_isSo_40 rfl (lv_at hl 0 rfl) ?_
    refine lv_bipush (v := 6) hx hb dX12_isSo_41 (by decide) ?_
    refine q_iadd (Y := 6) hx hb dX12_isSo_43 rfl rfl (by omega) (fun x72 h73 => ?_)
    refine gl_822 E hW rR ⟨by omega, by omega⟩ dX12_isSo_44 (fun y74 m75 b76 => ?_)
    have m77 : aI (f2 pR) (x72 : Int32).toNatClampNeg = y20 := by rw [show (x72 : Int32) = x18 from Int32.toInt_inj.mp (by omega)]; exact m21
    obtain rfl : y20 = y74 := (m77).symm.trans m75
    refine t_callV (As := [.int u1, .int y12, .int y20]) (rest := []) E hW (c_X12_run l G cI cJ cZ cD cR cT kp L f2 hW.2.2.2 _ h0 u1 y12 y20 rh0 (by omega) (by rw [m70]; exact tx_g (t := u1) (c := u2) (by rw [fm_A hF rR (by decide) rfl]; exact hTX) (by omega) (show u1.toInt < (aI (f2 pR) 3).toInt ∧ u2.toInt < (aI (f2 pR) (17983 + 898 * u1.toInt).toNat).toInt from (by rw [fm_A hF rR (by decide) rfl]; exact hCl)).1 (by omega) (show u1.toInt < (aI (f2 pR) 3).toInt ∧ u2.toInt < (aI (f2 pR) (17983 + 898 * u1.toInt).toNat).toInt from (by rw [fm_A hF rR (by decide) rfl]; exact hCl)).2 m13 (by omega) m21 (by omega))) rh0 (by decide) rfl wk_X12_run tw_1693 rfl ⟨Nat.le_of_ble_eq_true rfl, Nat.le_of_ble_eq_true rfl⟩ ⟨rfl, rfl⟩ hl.1 rfl (Nat.le_of_ble_eq_true rfl) dX12_isSo_45 ⟨Nat.le_of_ble_eq_true rfl, Nat.le_of_ble_eq_true rfl⟩ (fun v78 f79 H locs q80 hW => ?_)
    obtain ⟨rfl, g81⟩ := q80
    have hF := FM.tr hF g81 rfl
    refine lv_aload_n hx hb dX12_isSo_48 rfl (lv_at hl 1 rfl) ?_
    refine fg_RX12_406 E hW rh0 dX12_isSo_49 (fun y82 m83 b84 => ?_)
    refine q_if_ne (tgt := 64) hx hb dX12_isSo_52 (by decide) rfl (fun c85 => ?_) (fun c85 => ?_)
    · refine lv_iconst (v := 0) hx hb dX12_isSo_64 (by decide) ?_
      exact e_Z E hW rfl (by decide) ⟨⟨_, rfl, (by have hk : (0 : Int32).toInt = 0 := rfl; first | decide | omega)⟩, hF⟩ dX12_isSo_65
    · refine lv_aload_n hx hb dX12_isSo_55 rfl (lv_at hl 1 rfl) ?_
      refine fg_RX12_417 E hW rh0 dX12_isSo_56 (fun y86 m87 => ?_)
      refine lv_lconst (v := 0) hx hb dX12_isSo_59 (by decide) ?_
      refine q_lcmp_ne (Y := 0) (tgt := 66) hx hb dX12_isSo_60 dX12_isSo_61 (by decide) rfl rfl (fun c88 => ?_) (fun c88 => ?_)
      · refine lv_aload_n hx hb dX12_isSo_66 rfl (lv_at hl 1 rfl) ?_
        refine lv_iload_n hx hb dX12_isSo_67 rfl (lv_at hl 2 rfl) ?_
        refine lv_aload_n hx hb dX12_isSo_68 rfl (lv_at hl 1 rfl) ?_
        refine fg_RX12_8 E hW rh0 dX12_isSo_69 (fun a89 m90 r91 => ?_)
        obtain rfl : pR = a89 := (((fm_R g81 rh0 rfl).trans m70)).symm.trans m90
        refine lv_iload_n hx hb dX12_isSo_72 rfl (lv_at hl 0 rfl) ?_
        refine lv_iconst (v := 3) hx hb dX12_isSo_73 (by decide) ?_
        refine q_iadd (Y := 3) hx hb dX12_isSo_74 rfl rfl (by omega) (fun x92 h93 => ?_)
        refine gl_822 E hW rR ⟨by omega, by omega⟩ dX12_isSo_75 (fun y94 m95 b96 => ?_)
        refine lv_aload_n hx hb dX12_isSo_76 rfl (lv_at hl 1 rfl) ?_
        refine fg_RX12_8 E hW rh0 dX12_isSo_77 (fun a97 m98 r99 => ?_)
        obtain rfl : pR = a97 := (m90).symm.trans m98
        refine lv_iload_n hx hb dX12_isSo_80 rfl (lv_at hl 0 rfl) ?_
        refine lv_iconst (v := 4) hx hb dX12_isSo_81 (by decide) ?_
        refine q_iadd (Y := 4) hx hb dX12_isSo_82 rfl rfl (by omega) (fun x100 h101 => ?_)
        refine gl_822 E hW rR ⟨by omega, by omega⟩ dX12_isSo_83 (fun y102 m103 b104 => ?_)
        refine t_callV (As := [.int u1, .int y94, .int y102]) (rest := []) E hW (c_X12_run l G cI cJ cZ cD cR cT kp L f79 hW.2.2.2 _ h0 u1 y94 y102 rh0 (by omega) (by rw [m98]; exact tx_g (t := u1) (c := u2) (by rw [fm_A hF rR (by decide) rfl]; exact hTX) (by omega) (show u1.toInt < (aI (f79 pR) 3).toInt ∧ u2.toInt < (aI (f79 pR) (17983 + 898 * u1.toInt).toNat).toInt from (by rw [fm_A hF rR (by decide) rfl]; exact hCl)).1 (by omega) (show u1.toInt < (aI (f79 pR) 3).toInt ∧ u2.toInt < (aI (f79 pR) (17983 + 898 * u1.toInt).toNat).toInt from (by rw [fm_A hF rR (by decide) rfl]; exact hCl)).2 m95 (by omega) m103 (by omega))) rh0 (by decide) rfl wk_X12_run tw_1693 rfl ⟨Nat.le_of_ble_eq_true rfl, Nat.le_of_ble_eq_true rfl⟩ ⟨rfl, rfl⟩ hl.1 rfl (Nat.le_of_ble_eq_true rfl) dX12_isSo_84 ⟨Nat.le_of_ble_eq_true rfl, Nat.le_of_ble_eq_true rfl⟩ (fun v105 f106 H locs q107 hW => ?_)
        obtain ⟨rfl, g108⟩ := q107
        have m109 : aI (f106 pR) (x10 : Int32).toNatClampNeg = y12 := ((congrArg (fun z => aI z (x10 : Int32).toNatClampNeg) (fm_A g108 rR (by decide) rfl)).trans ((congrArg (fun z => aI z (x10 : Int32).toNatClampNeg) (fm_A g81 rR (by decide) rfl)).trans m13))
        have m110 : aI (f106 pR) (x18 : Int32).toNatClampNeg = y20 := ((congrArg (fun z => aI z (x18 : Int32).toNatClampNeg) (fm_A g108 rR (by decide) rfl)).trans ((congrArg (fun z => aI z (x18 : Int32).toNatClampNeg) (fm_A g81 rR (by decide) rfl)).trans m21))
        have m111 : aI (f106 pR) (x63 : Int32).toNatClampNeg = y12 := ((congrArg (fun z => aI z (x63 : Int32).toNatClampNeg) (fm_A g108 rR (by decide) rfl)).trans ((congrArg (fun z => aI z (x63 : Int32).toNatClampNeg) (fm_A g81 rR (by decide) rfl)).trans m66))
        have m112 : aI (f106 pR) (x72 : Int32).toNatClampNeg = y20 := ((congrArg (fun z => aI z (x72 : Int32).toNatClampNeg) (fm_A g108 rR (by decide) rfl)).trans ((congrArg (fun z => aI z (x72 : Int32).toNatClampNeg) (fm_A g81 rR (by decide) rfl)).trans m75))
        have hF := FM.tr hF g108 rfl
        refine lv_aload_n hx hb dX12_isSo_87 rfl (lv_at hl 1 rfl) ?_
        refine lv_aload_n hx hb dX12_isSo_88 rfl (lv_at hl 1 rfl) ?_
        refine fg_RX12_417 E hW rh0 dX12_isSo_89 (fun y113 m114 => ?_)
        refine fp_RX12_424 E hW rh0 dX12_isSo_92 (fun f115 H locs e116 n117 g118 hW => ?_)
        have m119 : aI (f115 pR) (x92 : Int32).toNatClampNeg = y94 := ((congrArg (fun z => aI z (x92 : Int32).toNatClampNeg) (fm_A g118 rR (by decide) rfl)).trans ((congrArg (fun z => aI z (x92 : Int32).toNatClampNeg) (fm_A g108 rR (by decide) rfl)).trans m95))
        have m120 : aI (f115 pR) (x100 : Int32).toNatClampNeg = y102 := ((congrArg (fun z => aI z (x100 : Int32).toNatClampNeg) (fm_A g118 rR (by decide) rfl)).trans ((congrArg (fun z => aI z (x100 : Int32).toNatClampNeg) (fm_A g108 rR (by decide) rfl)).trans m103))
        have hF := FM.tr hF g118 rfl
        refine lv_aload_n hx hb dX12_isSo_95 rfl (lv_at hl 1 rfl) ?_
        refine fg_RX12_406 E hW rh0 dX12_isSo_96 (fun y121 m122 b123 => ?_)
        refine q_if_ne (tgt := 106) hx hb dX12_isSo_99 (by decide) rfl (fun c124 => ?_) (fun c124 => ?_)
        · refine lv_iconst (v := 0) hx hb dX12_isSo_106 (by decide) ?_
          exact e_Z E hW rfl (by decide) ⟨⟨_, rfl, (by have hk : (0 : Int32).toInt = 0 := rfl; first | decide | omega)⟩, hF⟩ dX12_isSo_107
        · refine lv_iconst (v := 1) hx hb dX12_isSo_102 (by decide) ?_
          refine lv_goto (tgt := 107) hx hb dX12_isSo_103 (by decide) ?_
          exact e_Z E hW rfl (by decide) ⟨⟨_, rfl, (by have hk : (1 : Int32).toInt = 1 := rfl; first | decide | omega)⟩, hF⟩ dX12_isSo_107
      · refine lv_iconst (v := 0) hx hb dX12_isSo_64 (by decide) ?_
        exact e_Z E hW rfl (by decide) ⟨⟨_, rfl, (by have hk : (0 : Int32).toInt = 0 := rfl; first | decide | omega)⟩, hF⟩ dX12_isSo_65
def ms_X12_setFor : List (Nat × Nat) := [(851, 0)]
def po_X12_setFor (kp : Nat → Nat) (L : List Nat) (f0 : Nat → va_E) (h0 : Nat) (u1 : Int32) (u2 : Int32) : Option Value → (Nat → va_E) → Prop := fun v f => v = none ∧ FM kp L ms_X12_setFor f0 f
set_option maxHeartbeats 4000000 in
set_option maxRecDepth 100000 in
theorem c_X12_setFor (l : Launch) (G : va_G) (cI cJ cZ cD cR cT : ClassId) (kp : Nat → Nat) (L : List Nat) (f0 : Nat → va_E) (hTH : TH cI cJ cZ cD cR cT kp L f0) (sz : Nat) (h0 : Nat) (u1 : Int32) (u2 : Int32) (rh0 : RK kp L h0 12) (pu1 : (-1 : Int) ≤ u1.toInt ∧ u1.toInt ≤ 39) (pu2 : (-1 : Int) ≤ u2.toInt ∧ u2.toInt ≤ 39) : Met l yX12_setFor (Cond.code yX12_setFor cX12_setFor 4 none :: wTab) ({ frames := 3, cells := 0, slots := 0, locals := 84 }) (va_Pc [.ref h0, .int u1, .int u2] (PreW G (tys6 cI cJ cZ cD cR cT) (va_pl L f0) sz)) (QT (po_X12_setFor kp L f0 h0 u1 u2) G cI cJ cZ cD cR cT (va_A (va_pl L f0) sz) kp L) 0 0 (va_A (va_pl L f0) sz) := by
  refine metT (by decide) (Nat.le_of_ble_eq_true rfl) hTH ?_
  intro p e s m below meth c A ls E hW hl
  obtain ⟨hx, hb, -, hml, hown, hts, -, -, -⟩ := id E
  have hF : FM kp L ms_X12_setFor f0 f0 := FM.rf
  have hl : lv_has ls 4 [(0, .ref h0), (1, .int u1), (2, .int u2)] := hl
  obtain ⟨pR, mR⟩ : ∃ x : Nat, oR (f0 h0) 2 = x := ⟨_, rfl⟩
  have rR : RK kp L pR 822 := by rw [← mR]; exact th_ref hTH rh0 (by decide) (by decide) rfl
  refine lv_iconst (v := 0) hx hb dX12_setFor_0 (by decide) ?_
  refine lv_istore_n (lv' := [(3, .int 0), (0, .ref h0), (1, .int u1), (2, .int u2)]) hx hb dX12_setFor_1 rfl hl (by decide) rfl (fun ls hl => ?_)
  have L215 : ∀ (n : Nat), ∀ (f211 : Nat → va_E) (y213 : Int32) (m212 : oR (f211 h0) 2 = pR) (b214 : (0 : Int) ≤ y213.toInt ∧ y213.toInt ≤ 19) (hm : (20 : Int) - y213.toInt ≤ n) (H : Heap) (locs : List Loc) (ls : Array Slot), WS G cI cJ cZ cD cR cT A kp L f211 s H locs → FM kp L ms_X12_setFor f0 f211 → lv_has ls 4 [(3, .int y213), (0, .ref h0), (1, .int u1), (2, .int u2)] → W p l e ({ frames := 3, cells := 0, slots := 0, locals := 84 }) s m ([.ref h0, .int u1, .int u2] : List Value).toArray below meth c H locs 0 0 (MQ below (QT (po_X12_setFor kp L f0 h0 u1 u2) G cI cJ cZ cD cR cT A kp L) ([.ref h0, .int u1, .int u2] : List Value).toArray s 0 0 A) (F0 m 2 ls []) := by
    intro n
    induction n with
    | zero =>
      intro f211 y213 m212 b214 hm H locs ls hW hF hl
      have hz := i32_b y213
      exfalso; omega
    | succ n ih =>
      intro f211 y213 m212 b214 hm H locs ls hW hF hl
      have ih2 := ih
      refine lv_iload_n hx hb dX12_setFor_2 rfl (lv_at hl 0 rfl) ?_
      refine lv_bipush (v := 16) hx hb dX12_setFor_3 (by decide) ?_
      refine q_icmp_ge (Y := 16) (tgt := 21) hx hb dX12_setFor_5 (by decide) rfl rfl (fun c225 => ?_) (fun c225 => ?_)
      · refine lv_aload_n hx hb dX12_setFor_21 rfl (lv_at hl 1 rfl) ?_
        refine fg_RX12_60 E hW rh0 dX12_setFor_22 (fun a226 m227 r228 => ?_)
        refine lv_bipush (v := 8) hx hb dX12_setFor_25 (by decide) ?_
        refine lv_aload_n hx hb dX12_setFor_27 rfl (lv_at hl 1 rfl) ?_
        refine fg_RX12_8 E hW rh0 dX12_setFor_28 (fun a229 m230 r231 => ?_)
        obtain rfl : pR = a229 := (m212).symm.trans m230
        refine lv_bipush (v := 8) hx hb dX12_setFor_31 (by decide) ?_
        refine gl_822 E hW rR (by decide) dX12_setFor_33 (fun y232 m233 b234 => ?_)
        have b235 := rr_8 (show RowInv _ from b234) m233 (by decide)
        refine q_i2l hx hb dX12_setFor_34 rfl (fun x236 h237 => ?_)
        refine gs_851 E hW r228 (by decide) dX12_setFor_35 (fun f238 H locs e239 n240 g241 hW => ?_)
        have hF := FM.tr hF g241 rfl
        refine lv_aload_n hx hb dX12_setFor_36 rfl (lv_at hl 1 rfl) ?_
        refine fg_RX12_60 E hW rh0 dX12_setFor_37 (fun a242 m243 r244 => ?_)
        obtain rfl : a226 = a242 := (((fm_R g241 rh0 rfl).trans m227)).symm.trans m243
        refine lv_bipush (v := 9) hx hb dX12_setFor_40 (by decide) ?_
        refine lv_aload_n hx hb dX12_setFor_42 rfl (lv_at hl 1 rfl) ?_
        refine t_callV (As := []) (rest := [.int 9, .ref a226]) E hW (c_X12_priceNow l G cI cJ cZ cD cR cT kp L f238 hW.2.2.2 _ h0 rh0) rh0 (by decide) rfl wk_X12_priceNow tw_1677 rfl ⟨Nat.le_of_ble_eq_true rfl, Nat.le_of_ble_eq_true rfl⟩ ⟨rfl, rfl⟩ hl.1 rfl (Nat.le_of_ble_eq_true rfl) dX12_setFor_43 ⟨Nat.le_of_ble_eq_true rfl, Nat.le_of_ble_eq_true rfl⟩ (fun v245 f246 H locs q247 hW => ?_)
        obtain ⟨⟨x249, rfl, p250⟩, g248⟩ := q247
        clear p250
        have m251 : aI (f246 pR) (8 : Int32).toNatClampNeg = y232 := ((congrArg (fun z => aI z (8 : Int32).toNatClampNeg) (fm_A g248 rR (by decide) rfl)).trans ((congrArg (fun z => aI z (8 : Int32).toNatClampNeg) (fm_A g241 rR (by decide) rfl)).trans m233))
        have hF := FM.tr hF g248 rfl
        refine q_i2l hx hb dX12_setFor_46 rfl (fun x252 h253 => ?_)
        have hb254 : -2147483648 ≤ x252.toInt ∧ x252.toInt ≤ 2147483647 := by have := i32_b x249; omega
        refine gs_851 E hW r228 (by decide) dX12_setFor_47 (fun f255 H locs e256 n257 g258 hW => ?_)
        have hF := FM.tr hF g258 rfl
        refine lv_iload_n hx hb dX12_setFor_48 rfl (lv_at hl 3 rfl) ?_
        refine lv_iconst (v := (-1)) hx hb dX12_setFor_49 (by decide) ?_
        have J341 : ∀ (f335 : Nat → va_E) (y339 : Int32) (m336 : oR (f335 h0) 2 = pR) (m337 : oR (f335 h0) 31 = a226) (m338 : aI (f335 pR) (8 : Int32).toNatClampNeg = y232) (b340 : (16 : Int) ≤ y339.toInt ∧ y339.toInt ≤ 676) (H : Heap) (locs : List Loc) (ls : Array Slot), WS G cI cJ cZ cD cR cT A kp L f335 s H locs → FM kp L ms_X12_setFor f0 f335 → lv_has ls 4 [(3, .int y339), (0, .ref h0), (1, .int u1), (2, .int u2)] → W p l e ({ frames := 3, cells := 0, slots := 0, locals := 84 }) s m ([.ref h0, .int u1, .int u2] : List Value).toArray below meth c H locs 0 0 (MQ below (QT (po_X12_setFor kp L f0 h0 u1 u2) G cI cJ cZ cD cR cT A kp L) ([.ref h0, .int u1, .int u2] : List Value).toArray s 0 0 A) (F0 m 117 ls []) := by
          intro f335 y339 m336 m337 m338 b340 H locs ls hW hF hl
          clear h253 hb254
          refine lv_iload_n hx hb dX12_setFor_117 rfl (lv_at hl 2 rfl) ?_
          refine lv_iconst (v := (-1)) hx hb dX12_setFor_118 (by decide) ?_
          have J513 : ∀ (f507 : Nat → va_E) (y511 : Int32) (m508 : oR (f507 h0) 2 = pR) (m509 : oR (f507 h0) 31 = a226) (m510 : aI (f507 pR) (8 : Int32).toNatClampNeg = y232) (b512 : (16 : Int) ≤ y511.toInt ∧ y511.toInt ≤ 676) (H : Heap) (locs : List Loc) (ls : Array Slot), WS G cI cJ cZ cD cR cT A kp L f507 s H locs → FM kp L ms_X12_setFor f0 f507 → lv_has ls 4 [(3, .int y511), (0, .ref h0), (1, .int u1), (2, .int u2)] → W p l e ({ frames := 3, cells := 0, slots := 0, locals := 84 }) s m ([.ref h0, .int u1, .int u2] : List Value).toArray below meth c H locs 0 0 (MQ below (QT (po_X12_setFor kp L f0 h0 u1 u2) G cI cJ cZ cD cR cT A kp L) ([.ref h0, .int u1, .int u2] : List Value).toArray s 0 0 A) (F0 m 286 ls []) := by
            intro f507 y511 m508 m509 m510 b512 H locs ls hW hF hl
            clear b340
            exact e_V E hW rfl ⟨rfl, hF⟩ dX12_setFor_286
          refine q_icmp_eq (Y := -1) (tgt := 286) hx hb dX12_setFor_119 (by decide) rfl rfl (fun c514 => ?_) (fun c514 => ?_)
          · exact J513 f335 y339 m336 m337 m338 (by omega) _ _ _ hW hF (lv_sub hl [0, 1, 2, 3] rfl)
          · refine lv_iload_n hx hb dX12_setFor_122 rfl (lv_at hl 2 rfl) ?_
            refine t_callS (As := [.int u1]) (rest := []) E hW (c_X12_personAt l G cI cJ cZ cD cR cT kp L f335 hW.2.2.2 _ u1 (by omega)) wk_X12_personAt tw_1572 rfl ⟨Nat.le_of_ble_eq_true rfl, Nat.le_of_ble_eq_true rfl⟩ ⟨rfl, rfl⟩ hl.1 rfl (Nat.le_of_ble_eq_true rfl) dX12_setFor_123 ⟨Nat.le_of_ble_eq_true rfl, Nat.le_of_ble_eq_true rfl⟩ (fun v515 f516 H locs q517 hW => ?_)
            obtain ⟨⟨x519, rfl, p520⟩, g518⟩ := q517
            have hF := FM.tr hF g518 rfl
            refine lv_istore_n (lv' := [(3, .int x519), (0, .ref h0), (1, .int u1), (2, .int u2)]) hx hb dX12_setFor_126 rfl hl (by decide) rfl (fun ls hl => ?_)
            refine lv_aload_n hx hb dX12_setFor_127 rfl (lv_at hl 1 rfl) ?_
            refine fg_RX12_60 E hW rh0 dX12_setFor_128 (fun a521 m522 r523 => ?_)
            obtain rfl : a226 = a521 := (((fm_R g518 rh0 rfl).trans m337)).symm.trans m522
            refine lv_iconst (v := 4) hx hb dX12_setFor_131 (by decide) ?_
            refine lv_aload_n hx hb dX12_setFor_132 rfl (lv_at hl 1 rfl) ?_
            refine fg_RX12_8 E hW rh0 dX12_setFor_133 (fun a524 m525 r526 => ?_)
            obtain rfl : pR = a524 := (((fm_R g518 rh0 rfl).trans m336)).symm.trans m525
            refine lv_iload_n hx hb dX12_setFor_136 rfl (lv_at hl 0 rfl) ?_
            refine lv_iconst (v := 1) hx hb dX12_setFor_137 (by decide) ?_
            refine q_iadd (Y := 1) hx hb dX12_setFor_138 rfl rfl (by omega) (fun x527 h528 => ?_)
            refine gl_822 E hW rR ⟨by omega, by omega⟩ dX12_setFor_139 (fun y529 m530 b531 => ?_)
            refine q_i2l hx hb dX12_setFor_140 rfl (fun x532 h533 => ?_)
            have hb534 : -2147483648 ≤ x532.toInt ∧ x532.toInt ≤ 2147483647 := by have := i32_b y529; omega
            refine gs_851 E hW r228 (by decide) dX12_setFor_141 (fun f535 H locs e536 n537 g538 hW => ?_)
            have m539 : aI (f535 pR) (8 : Int32).toNatClampNeg = y232 := ((congrArg (fun z => aI z (8 : Int32).toNatClampNeg) (fm_A g538 rR (by decide) rfl)).trans ((congrArg (fun z => aI z (8 : Int32).toNatClampNeg) (fm_A g518 rR (by decide) rfl)).trans m338))
            have hF := FM.tr hF g538 rfl
            refine lv_aload_n hx hb dX12_setFor_142 rfl (lv_at hl 1 rfl) ?_
            refine fg_RX12_60 E hW rh0 dX12_setFor_143 (fun a540 m541 r542 => ?_)
            obtain rfl : a226 = a540 := (((fm_R g538 rh0 rfl).trans m522)).symm.trans m541
            refine lv_iconst (v := 5) hx hb dX12_setFor_146 (by decide) ?_
            refine lv_aload_n hx hb dX12_setFor_147 rfl (lv_at hl 1 rfl) ?_
            refine fg_RX12_8 E hW rh0 dX12_setFor_148 (fun a543 m544 r545 => ?_)
            obtain rfl : pR = a543 := (((fm_R g538 rh0 rfl).trans m525)).symm.trans m544
            refine lv_iload_n hx hb dX12_setFor_151 rfl (lv_at hl 0 rfl) ?_
            refine lv_iconst (v := 4) hx hb dX12_setFor_152 (by decide) ?_
            refine q_iadd (Y := 4) hx hb dX12_setFor_153 rfl rfl (by omega) (fun x546 h547 => ?_)
            refine gl_822 E hW rR ⟨by omega, by omega⟩ dX12_setFor_154 (fun y548 m549 b550 => ?_)
            refine q_i2l hx hb dX12_setFor_155 rfl (fun x551 h552 => ?_)
            have hb553 : -2147483648 ≤ x551.toInt ∧ x551.toInt ≤ 2147483647 := by have := i32_b y548; omega
            refine gs_851 E hW r228 (by decide) dX12_setFor_156 (fun f554 H locs e555 n556 g557 hW => ?_)
            have m558 : aI (f554 pR) (x527 : Int32).toNatClampNeg = y529 := ((congrArg (fun z => aI z (x527 : Int32).toNatClampNeg) (fm_A g557 rR (by decide) rfl)).trans ((congrArg (fun z => aI z (x527 : Int32).toNatClampNeg) (fm_A g538 rR (by decide) rfl)).trans m530))
            have hF := FM.tr hF g557 rfl
            refine lv_aload_n hx hb dX12_setFor_157 rfl (lv_at hl 1 rfl) ?_
            refine fg_RX12_60 E hW rh0 dX12_setFor_158 (fun a559 m560 r561 => ?_)
            obtain rfl : a226 = a559 := (((fm_R g557 rh0 rfl).trans m541)).symm.trans m560
            refine lv_bipush (v := 6) hx hb dX12_setFor_161 (by decide) ?_
            refine lv_aload_n hx hb dX12_setFor_163 rfl (lv_at hl 1 rfl) ?_
            refine fg_RX12_8 E hW rh0 dX12_setFor_164 (fun a562 m563 r564 => ?_)
            obtain rfl : pR = a562 := (((fm_R g557 rh0 rfl).trans m544)).symm.trans m563
            refine lv_iload_n hx hb dX12_setFor_167 rfl (lv_at hl 0 rfl) ?_
            refine lv_iconst (v := 2) hx hb dX12_setFor_168 (by decide) ?_
            refine q_iadd (Y := 2) hx hb dX12_setFor_169 rfl rfl (by omega) (fun x565 h566 => ?_)
            refine gl_822 E hW rR ⟨by omega, by omega⟩ dX12_setFor_170 (fun y567 m568 b569 => ?_)
            refine q_i2l hx hb dX12_setFor_171 rfl (fun x570 h571 => ?_)
            have hb572 : -2147483648 ≤ x570.toInt ∧ x570.toInt ≤ 2147483647 := by have := i32_b y567; omega
            refine gs_851 E hW r228 (by decide) dX12_setFor_172 (fun f573 H locs e574 n575 g576 hW => ?_)
            have m577 : aI (f573 pR) (8 : Int32).toNatClampNeg = y232 := ((congrArg (fun z => aI z (8 : Int32).toNatClampNeg) (fm_A g576 rR (by decide) rfl)).trans ((congrArg (fun z => aI z (8 : Int32).toNatClampNeg) (fm_A g557 rR (by decide) rfl)).trans m539))
            have m578 : aI (f573 pR) (x546 : Int32).toNatClampNeg = y548 := ((congrArg (fun z => aI z (x546 : Int32).toNatClampNeg) (fm_A g576 rR (by decide) rfl)).trans ((congrArg (fun z => aI z (x546 : Int32).toNatClampNeg) (fm_A g557 rR (by decide) rfl)).trans m549))
            have hF := FM.tr hF g576 rfl
            refine lv_aload_n hx hb dX12_setFor_173 rfl (lv_at hl 1 rfl) ?_
            refine fg_RX12_60 E hW rh0 dX12_setFor_174 (fun a579 m580 r581 => ?_)
            obtain rfl : a226 = a579 := (((fm_R g576 rh0 rfl).trans m560)).symm.trans m580
            refine lv_bipush (v := 7) hx hb dX12_setFor_177 (by decide) ?_
            refine lv_aload_n hx hb dX12_setFor_179 rfl (lv_at hl 1 rfl) ?_
            refine lv_iload_n hx hb dX12_setFor_180 rfl (lv_at hl 2 rfl) ?_
            refine t_callV (As := [.int u1]) (rest := [.int 7, .ref a226]) E hW (c_X12_kinOf l G cI cJ cZ cD cR cT kp L f573 hW.2.2.2 _ h0 u1 rh0 (by omega)) rh0 (by decide) rfl wk_X12_kinOf tw_1631 rfl ⟨Nat.le_of_ble_eq_true rfl, Nat.le_of_ble_eq_true rfl⟩ ⟨rfl, rfl⟩ hl.1 rfl (Nat.le_of_ble_eq_true rfl) dX12_setFor_181 ⟨Nat.le_of_ble_eq_true rfl, Nat.le_of_ble_eq_true rfl⟩ (fun v582 f583 H locs q584 hW => ?_)
            obtain ⟨⟨x586, rfl, p587⟩, g585⟩ := q584
            clear p587
            have m588 : aI (f583 pR) (x527 : Int32).toNatClampNeg = y529 := ((congrArg (fun z => aI z (x527 : Int32).toNatClampNeg) (fm_A g585 rR (by decide) rfl)).trans ((congrArg (fun z => aI z (x527 : Int32).toNatClampNeg) (fm_A g576 rR (by decide) rfl)).trans m558))
            have m589 : aI (f583 pR) (x565 : Int32).toNatClampNeg = y567 := ((congrArg (fun z => aI z (x565 : Int32).toNatClampNeg) (fm_A g585 rR (by decide) rfl)).trans ((congrArg (fun z => aI z (x565 : Int32).toNatClampNeg) (fm_A g576 rR (by decide) rfl)).trans m568))
            have hF := FM.tr hF g585 rfl
            refine q_i2l hx hb dX12_setFor_184 rfl (fun x590 h591 => ?_)
            have hb592 : -2147483648 ≤ x590.toInt ∧ x590.toInt ≤ 2147483647 := by have := i32_b x586; omega
            refine gs_851 E hW r228 (by decide) dX12_setFor_185 (fun f593 H locs e594 n595 g596 hW => ?_)
            have m597 : aI (f593 pR) (8 : Int32).toNatClampNeg = y232 := ((congrArg (fun z => aI z (8 : Int32).toNatClampNeg) (fm_A g596 rR (by decide) rfl)).trans ((congrArg (fun z => aI z (8 : Int32).toNatClampNeg) (fm_A g585 rR (by decide) rfl)).trans m577))
            have m598 : aI (f593 pR) (x546 : Int32).toNatClampNeg = y548 := ((congrArg (fun z => aI z (x546 : Int32).toNatClampNeg) (fm_A g596 rR (by decide) rfl)).trans ((congrArg (fun z => aI z (x546 : Int32).toNatClampNeg) (fm_A g585 rR (by decide) rfl)).trans m578))
            have hF := FM.tr hF g596 rfl
            refine lv_aload_n hx hb dX12_setFor_186 rfl (lv_at hl 1 rfl) ?_
            refine fg_RX12_60 E hW rh0 dX12_setFor_187 (fun a599 m600 r601 => ?_)
            obtain rfl : a226 = a599 := (((fm_R g596 rh0 rfl).trans ((fm_R g585 rh0 rfl).trans m580))).symm.trans m600
            refine lv_bipush (v := 11) hx hb dX12_setFor_190 (by decide) ?_
            refine lv_aload_n hx hb dX12_setFor_192 rfl (lv_at hl 1 rfl) ?_
            refine fg_RX12_8 E hW rh0 dX12_setFor_193 (fun a602 m603 r604 => ?_)
            obtain rfl : pR = a602 := (((fm_R g596 rh0 rfl).trans ((fm_R g585 rh0 rfl).trans ((fm_R g576 rh0 rfl).trans m563)))).symm.trans m603
            refine lv_iload_n hx hb dX12_setFor_196 rfl (lv_at hl 0 rfl) ?_
            refine lv_iconst (v := 0) hx hb dX12_setFor_197 (by decide) ?_
            refine q_iadd (Y := 0) hx hb dX12_setFor_198 rfl rfl (by omega) (fun x605 h606 => ?_)
            refine gl_822 E hW rR ⟨by omega, by omega⟩ dX12_setFor_199 (fun y607 m608 b609 => ?_)
            refine q_i2l hx hb dX12_setFor_200 rfl (fun x610 h611 => ?_)
            have hb612 : -2147483648 ≤ x610.toInt ∧ x610.toInt ≤ 2147483647 := by have := i32_b y607; omega
            refine gs_851 E hW r228 (by decide) dX12_setFor_201 (fun f613 H locs e614 n615 g616 hW => ?_)
            have m617 : aI (f613 pR) (x527 : Int32).toNatClampNeg = y529 := ((congrArg (fun z => aI z (x527 : Int32).toNatClampNeg) (fm_A g616 rR (by decide) rfl)).trans ((congrArg (fun z => aI z (x527 : Int32).toNatClampNeg) (fm_A g596 rR (by decide) rfl)).trans m588))
            have m618 : aI (f613 pR) (x565 : Int32).toNatClampNeg = y567 := ((congrArg (fun z => aI z (x565 : Int32).toNatClampNeg) (fm_A g616 rR (by decide) rfl)).trans ((congrArg (fun z => aI z (x565 : Int32).toNatClampNeg) (fm_A g596 rR (by decide) rfl)).trans m589))
            have hF := FM.tr hF g616 rfl
            refine lv_aload_n hx hb dX12_setFor_202 rfl (lv_at hl 1 rfl) ?_
            refine fg_RX12_60 E hW rh0 dX12_setFor_203 (fun a619 m620 r621 => ?_)
            obtain rfl : a226 = a619 := (((fm_R g616 rh0 rfl).trans m600)).symm.trans m620
            refine lv_bipush (v := 12) hx hb dX12_setFor_206 (by decide) ?_
            refine lv_aload_n hx hb dX12_setFor_208 rfl (lv_at hl 1 rfl) ?_
            refine lv_iload_n hx hb dX12_setFor_209 rfl (lv_at hl 2 rfl) ?_
            refine lv_iconst (v := 0) hx hb dX12_setFor_210 (by decide) ?_
            refine t_callV (As := [.int u1, .int 0]) (rest := [.int 12, .ref a226]) E hW (c_X12_holdsAny l G cI cJ cZ cD cR cT kp L f613 hW.2.2.2 _ h0 u1 0 rh0 (by omega) (by decide)) rh0 (by decide) rfl wk_X12_holdsAny tw_1681 rfl ⟨Nat.le_of_ble_eq_true rfl, Nat.le_of_ble_eq_true rfl⟩ ⟨rfl, rfl⟩ hl.1 rfl (Nat.le_of_ble_eq_true rfl) dX12_setFor_211 ⟨Nat.le_of_ble_eq_true rfl, Nat.le_of_ble_eq_true rfl⟩ (fun v622 f623 H locs q624 hW => ?_)
            obtain ⟨⟨x626, rfl, p627⟩, g625⟩ := q624
            have p627 : (0 : Int) ≤ x626.toInt ∧ x626.toInt ≤ 1 := p627
            have m628 : aI (f623 pR) (8 : Int32).toNatClampNeg = y232 := ((congrArg (fun z => aI z (8 : Int32).toNatClampNeg) (fm_A g625 rR (by decide) rfl)).trans ((congrArg (fun z => aI z (8 : Int32).toNatClampNeg) (fm_A g616 rR (by decide) rfl)).trans m597))
            have m629 : aI (f623 pR) (x546 : Int32).toNatClampNeg = y548 := ((congrArg (fun z => aI z (x546 : Int32).toNatClampNeg) (fm_A g625 rR (by decide) rfl)).trans ((congrArg (fun z => aI z (x546 : Int32).toNatClampNeg) (fm_A g616 rR (by decide) rfl)).trans m598))
            have m630 : aI (f623 pR) (x605 : Int32).toNatClampNeg = y607 := ((congrArg (fun z => aI z (x605 : Int32).toNatClampNeg) (fm_A g625 rR (by decide) rfl)).trans ((congrArg (fun z => aI z (x605 : Int32).toNatClampNeg) (fm_A g616 rR (by decide) rfl)).trans m608))
            have hF := FM.tr hF g625 rfl
            have J633 : ∀ (y631 : Int64) (b632 : (0 : Int) ≤ y631.toInt ∧ y631.toInt ≤ 1) (H : Heap) (locs : List Loc) (ls : Array Slot), WS G cI cJ cZ cD cR cT A kp L f623 s H locs → FM kp L ms_X12_setFor f0 f623 → lv_has ls 4 [(3, .int x519), (0, .ref h0), (1, .int u1), (2, .int u2)] → W p l e ({ frames := 3, cells := 0, slots := 0, locals := 84 }) s m ([.ref h0, .int u1, .int u2] : List Value).toArray below meth c H locs 0 0 (MQ below (QT (po_X12_setFor kp L f0 h0 u1 u2) G cI cJ cZ cD cR cT A kp L) ([.ref h0, .int u1, .int u2] : List Value).toArray s 0 0 A) (F0 m 222 ls [.long y631, .int 12, .ref a226]) := by
              intro y631 b632 H locs ls hW hF hl
              clear b340 h591 hb592 p627
              refine gs_851 E hW r228 (by decide) dX12_setFor_222 (fun f634 H locs e635 n636 g637 hW => ?_)
              have m638 : aI (f634 pR) (x527 : Int32).toNatClampNeg = y529 := ((congrArg (fun z => aI z (x527 : Int32).toNatClampNeg) (fm_A g637 rR (by decide) rfl)).trans ((congrArg (fun z => aI z (x527 : Int32).toNatClampNeg) (fm_A g625 rR (by decide) rfl)).trans m617))
              have m639 : aI (f634 pR) (x565 : Int32).toNatClampNeg = y567 := ((congrArg (fun z => aI z (x565 : Int32).toNatClampNeg) (fm_A g637 rR (by decide) rfl)).trans ((congrArg (fun z => aI z (x565 : Int32).toNatClampNeg) (fm_A g625 rR (by decide) rfl)).trans m618))
              have hF := FM.tr hF g637 rfl
              refine lv_aload_n hx hb dX12_setFor_223 rfl (lv_at hl 1 rfl) ?_
              refine fg_RX12_60 E hW rh0 dX12_setFor_224 (fun a640 m641 r642 => ?_)
              obtain rfl : a226 = a640 := (((fm_R g637 rh0 rfl).trans ((fm_R g625 rh0 rfl).trans m620))).symm.trans m641
              refine lv_bipush (v := 13) hx hb dX12_setFor_227 (by decide) ?_
              refine lv_aload_n hx hb dX12_setFor_229 rfl (lv_at hl 1 rfl) ?_
              refine fg_RX12_8 E hW rh0 dX12_setFor_230 (fun a643 m644 r645 => ?_)
              obtain rfl : pR = a643 := (((fm_R g637 rh0 rfl).trans ((fm_R g625 rh0 rfl).trans ((fm_R g616 rh0 rfl).trans m603)))).symm.trans m644
              refine lv_iload_n hx hb dX12_setFor_233 rfl (lv_at hl 0 rfl) ?_
              refine lv_bipush (v := 7) hx hb dX12_setFor_234 (by decide) ?_
              refine q_iadd (Y := 7) hx hb dX12_setFor_236 rfl rfl (by omega) (fun x646 h647 => ?_)
              refine gl_822 E hW rR ⟨by omega, by omega⟩ dX12_setFor_237 (fun y648 m649 b650 => ?_)
              refine lv_iconst (v := (-1)) hx hb dX12_setFor_238 (by decide) ?_
              have J653 : ∀ (y651 : Int64) (b652 : (0 : Int) ≤ y651.toInt ∧ y651.toInt ≤ 1) (H : Heap) (locs : List Loc) (ls : Array Slot), WS G cI cJ cZ cD cR cT A kp L f634 s H locs → FM kp L ms_X12_setFor f0 f634 → lv_has ls 4 [(3, .int x519), (0, .ref h0), (1, .int u1), (2, .int u2)] → W p l e ({ frames := 3, cells := 0, slots := 0, locals := 84 }) s m ([.ref h0, .int u1, .int u2] : List Value).toArray below meth c H locs 0 0 (MQ below (QT (po_X12_setFor kp L f0 h0 u1 u2) G cI cJ cZ cD cR cT A kp L) ([.ref h0, .int u1, .int u2] : List Value).toArray s 0 0 A) (F0 m 247 ls [.long y651, .int 13, .ref a226]) := by
                intro y651 b652 H locs ls hW hF hl
                clear b632
                refine gs_851 E hW r228 (by decide) dX12_setFor_247 (fun f654 H locs e655 n656 g657 hW => ?_)
                have m658 : aI (f654 pR) (8 : Int32).toNatClampNeg = y232 := ((congrArg (fun z => aI z (8 : Int32).toNatClampNeg) (fm_A g657 rR (by decide) rfl)).trans ((congrArg (fun z => aI z (8 : Int32).toNatClampNeg) (fm_A g637 rR (by decide) rfl)).trans m628))
                have m659 : aI (f654 pR) (x546 : Int32).toNatClampNeg = y548 := ((congrArg (fun z => aI z (x546 : Int32).toNatClampNeg) (fm_A g657 rR (by decide) rfl)).trans ((congrArg (fun z => aI z (x546 : Int32).toNatClampNeg) (fm_A g637 rR (by decide) rfl)).trans m629))
                have m660 : aI (f654 pR) (x605 : Int32).toNatClampNeg = y607 := ((congrArg (fun z => aI z (x605 : Int32).toNatClampNeg) (fm_A g657 rR (by decide) rfl)).trans ((congrArg (fun z => aI z (x605 : Int32).toNatClampNeg) (fm_A g637 rR (by decide) rfl)).trans m630))
                have hF := FM.tr hF g657 rfl
                refine lv_aload_n hx hb dX12_setFor_248 rfl (lv_at hl 1 rfl) ?_
                refine fg_RX12_60 E hW rh0 dX12_setFor_249 (fun a661 m662 r663 => ?_)
                obtain rfl : a226 = a661 := (((fm_R g657 rh0 rfl).trans m641)).symm.trans m662
                refine lv_bipush (v := 14) hx hb dX12_setFor_252 (by decide) ?_
                refine lv_aload_n hx hb dX12_setFor_254 rfl (lv_at hl 1 rfl) ?_
                refine fg_RX12_8 E hW rh0 dX12_setFor_255 (fun a664 m665 r666 => ?_)
                obtain rfl : pR = a664 := (((fm_R g657 rh0 rfl).trans m644)).symm.trans m665
                refine lv_iload_n hx hb dX12_setFor_258 rfl (lv_at hl 0 rfl) ?_
                refine lv_bipush (v := 6) hx hb dX12_setFor_259 (by decide) ?_
                refine q_iadd (Y := 6) hx hb dX12_setFor_261 rfl rfl (by omega) (fun x667 h668 => ?_)
                refine gl_822 E hW rR ⟨by omega, by omega⟩ dX12_setFor_262 (fun y669 m670 b671 => ?_)
                refine q_i2l hx hb dX12_setFor_263 rfl (fun x672 h673 => ?_)
                have hb674 : -2147483648 ≤ x672.toInt ∧ x672.toInt ≤ 2147483647 := by have := i32_b y669; omega
                refine gs_851 E hW r228 (by decide) dX12_setFor_264 (fun f675 H locs e676 n677 g678 hW => ?_)
                have m679 : aI (f675 pR) (x527 : Int32).toNatClampNeg = y529 := ((congrArg (fun z => aI z (x527 : Int32).toNatClampNeg) (fm_A g678 rR (by decide) rfl)).trans ((congrArg (fun z => aI z (x527 : Int32).toNatClampNeg) (fm_A g657 rR (by decide) rfl)).trans m638))
                have m680 : aI (f675 pR) (x565 : Int32).toNatClampNeg = y567 := ((congrArg (fun z => aI z (x565 : Int32).toNatClampNeg) (fm_A g678 rR (by decide) rfl)).trans ((congrArg (fun z => aI z (x565 : Int32).toNatClampNeg) (fm_A g657 rR (by decide) rfl)).trans m639))
                have m681 : aI (f675 pR) (x646 : Int32).toNatClampNeg = y648 := ((congrArg (fun z => aI z (x646 : Int32).toNatClampNeg) (fm_A g678 rR (by decide) rfl)).trans ((congrArg (fun z => aI z (x646 : Int32).toNatClampNeg) (fm_A g657 rR (by decide) rfl)).trans m649))
                have hF := FM.tr hF g678 rfl
                refine lv_aload_n hx hb dX12_setFor_265 rfl (lv_at hl 1 rfl) ?_
                refine fg_RX12_60 E hW rh0 dX12_setFor_266 (fun a682 m683 r684 => ?_)
                obtain rfl : a226 = a682 := (((fm_R g678 rh0 rfl).trans m662)).symm.trans m683
                refine lv_bipush (v := 15) hx hb dX12_setFor_269 (by decide) ?_
                refine lv_aload_n hx hb dX12_setFor_271 rfl (lv_at hl 1 rfl) ?_
                refine lv_iload_n hx hb dX12_setFor_272 rfl (lv_at hl 2 rfl) ?_
                refine lv_iconst (v := 1) hx hb dX12_setFor_273 (by decide) ?_
                refine t_callV (As := [.int u1, .int 1]) (rest := [.int 15, .ref a226]) E hW (c_X12_holdsAny l G cI cJ cZ cD cR cT kp L f675 hW.2.2.2 _ h0 u1 1 rh0 (by omega) (by decide)) rh0 (by decide) rfl wk_X12_holdsAny tw_1681 rfl ⟨Nat.le_of_ble_eq_true rfl, Nat.le_of_ble_eq_true rfl⟩ ⟨rfl, rfl⟩ hl.1 rfl (Nat.le_of_ble_eq_true rfl) dX12_setFor_274 ⟨Nat.le_of_ble_eq_true rfl, Nat.le_of_ble_eq_true rfl⟩ (fun v685 f686 H locs q687 hW => ?_)
                obtain ⟨⟨x689, rfl, p690⟩, g688⟩ := q687
                have p690 : (0 : Int) ≤ x689.toInt ∧ x689.toInt ≤ 1 := p690
                have m691 : aI (f686 pR) (8 : Int32).toNatClampNeg = y232 := ((congrArg (fun z => aI z (8 : Int32).toNatClampNeg) (fm_A g688 rR (by decide) rfl)).trans ((congrArg (fun z => aI z (8 : Int32).toNatClampNeg) (fm_A g678 rR (by decide) rfl)).trans m658))
                have m692 : aI (f686 pR) (x546 : Int32).toNatClampNeg = y548 := ((congrArg (fun z => aI z (x546 : Int32).toNatClampNeg) (fm_A g688 rR (by decide) rfl)).trans ((congrArg (fun z => aI z (x546 : Int32).toNatClampNeg) (fm_A g678 rR (by decide) rfl)).trans m659))
                have m693 : aI (f686 pR) (x605 : Int32).toNatClampNeg = y607 := ((congrArg (fun z => aI z (x605 : Int32).toNatClampNeg) (fm_A g688 rR (by decide) rfl)).trans ((congrArg (fun z => aI z (x605 : Int32).toNatClampNeg) (fm_A g678 rR (by decide) rfl)).trans m660))
                have m694 : aI (f686 pR) (x667 : Int32).toNatClampNeg = y669 := ((congrArg (fun z => aI z (x667 : Int32).toNatClampNeg) (fm_A g688 rR (by decide) rfl)).trans ((congrArg (fun z => aI z (x667 : Int32).toNatClampNeg) (fm_A g678 rR (by decide) rfl)).trans m670))
                have hF := FM.tr hF g688 rfl
                have J697 : ∀ (y695 : Int64) (b696 : (0 : Int) ≤ y695.toInt ∧ y695.toInt ≤ 1) (H : Heap) (locs : List Loc) (ls : Array Slot), WS G cI cJ cZ cD cR cT A kp L f686 s H locs → FM kp L ms_X12_setFor f0 f686 → lv_has ls 4 [(3, .int x519), (0, .ref h0), (1, .int u1), (2, .int u2)] → W p l e ({ frames := 3, cells := 0, slots := 0, locals := 84 }) s m ([.ref h0, .int u1, .int u2] : List Value).toArray below meth c H locs 0 0 (MQ below (QT (po_X12_setFor kp L f0 h0 u1 u2) G cI cJ cZ cD cR cT A kp L) ([.ref h0, .int u1, .int u2] : List Value).toArray s 0 0 A) (F0 m 285 ls [.long y695, .int 15, .ref a226]) := by
                  intro y695 b696 H locs ls hW hF hl
                  clear b652 p690
                  refine gs_851 E hW r228 (by decide) dX12_setFor_285 (fun f698 H locs e699 n700 g701 hW => ?_)
                  have m702 : aI (f698 pR) (x527 : Int32).toNatClampNeg = y529 := ((congrArg (fun z => aI z (x527 : Int32).toNatClampNeg) (fm_A g701 rR (by decide) rfl)).trans ((congrArg (fun z => aI z (x527 : Int32).toNatClampNeg) (fm_A g688 rR (by decide) rfl)).trans m679))
                  have m703 : aI (f698 pR) (x565 : Int32).toNatClampNeg = y567 := ((congrArg (fun z => aI z (x565 : Int32).toNatClampNeg) (fm_A g701 rR (by decide) rfl)).trans ((congrArg (fun z => aI z (x565 : Int32).toNatClampNeg) (fm_A g688 rR (by decide) rfl)).trans m680))
                  have m704 : aI (f698 pR) (x646 : Int32).toNatClampNeg = y648 := ((congrArg (fun z => aI z (x646 : Int32).toNatClampNeg) (fm_A g701 rR (by decide) rfl)).trans ((congrArg (fun z => aI z (x646 : Int32).toNatClampNeg) (fm_A g688 rR (by decide) rfl)).trans m681))
                  have hF := FM.tr hF g701 rfl
                  exact J513 f698 x519 ((fm_R g701 rh0 rfl).trans ((fm_R g688 rh0 rfl).trans ((fm_R g678 rh0 rfl).trans m665))) ((fm_R g701 rh0 rfl).trans ((fm_R g688 rh0 rfl).trans m683)) ((congrArg (fun z => aI z (8 : Int32).toNatClampNeg) (fm_A g701 rR (by decide) rfl)).trans m691) (by omega) _ _ _ hW hF (lv_sub hl [0, 1, 2, 3] rfl)
                refine q_if_eq (tgt := 284) hx hb dX12_setFor_277 (by decide) rfl (fun c705 => ?_) (fun c705 => ?_)
                · refine lv_lconst (v := 0) hx hb dX12_setFor_284 (by decide) ?_
                  exact J697 0 (by decide) _ _ _ hW hF (lv_sub hl [0, 1, 2, 3] rfl)
                · refine lv_lconst (v := 1) hx hb dX12_setFor_280 (by decide) ?_
                  refine lv_goto (tgt := 285) hx hb dX12_setFor_281 (by decide) ?_
                  exact J697 1 (by decide) _ _ _ hW hF (lv_sub hl [0, 1, 2, 3] rfl)
              refine q_icmp_eq (Y := -1) (tgt := 246) hx hb dX12_setFor_239 (by decide) rfl rfl (fun c706 => ?_) (fun c706 => ?_)
              · refine lv_lconst (v := 0) hx hb dX12_setFor_246 (by decide) ?_
                exact J653 0 (by decide) _ _ _ hW hF (lv_sub hl [0, 1, 2, 3] rfl)
              · refine lv_lconst (v := 1) hx hb dX12_setFor_242 (by decide) ?_
                refine lv_goto (tgt := 247) hx hb dX12_setFor_243 (by decide) ?_
                exact J653 1 (by decide) _ _ _ hW hF (lv_sub hl [0, 1, 2, 3] rfl)
            refine q_if_eq (tgt := 221) hx hb dX12_setFor_214 (by decide) rfl (fun c707 => ?_) (fun c707 => ?_)
            · refine lv_lconst (v := 0) hx hb dX12_setFor_221 (by decide) ?_
              exact J633 0 (by decide) _ _ _ hW hF (lv_sub hl [0, 1, 2, 3] rfl)
            · refine lv_lconst (v := 1) hx hb dX12_setFor_217 (by decide) ?_
              refine lv_goto (tgt := 222) hx hb dX12_setFor_218 (by decide) ?_
              exact J633 1 (by decide) _ _ _ hW hF (lv_sub hl [0, 1, 2, 3] rfl)
        refine q_icmp_eq (Y := -1) (tgt := 117) hx hb dX12_setFor_50 (by decide) rfl rfl (fun c708 => ?_) (fun c708 => ?_)
        · exact J341 f255 y213 ((fm_R g258 rh0 rfl).trans ((fm_R g248 rh0 rfl).trans ((fm_R g241 rh0 rfl).trans m230))) ((fm_R g258 rh0 rfl).trans ((fm_R g248 rh0 rfl).trans m243)) ((congrArg (fun z => aI z (8 : Int32).toNatClampNeg) (fm_A g258 rR (by decide) rfl)).trans m251) (by omega) _ _ _ hW hF (lv_sub hl [0, 1, 2, 3] rfl)
        · refine lv_iload_n hx hb dX12_setFor_53 rfl (lv_at hl 3 rfl) ?_
          refine t_callS (As := [.int u2]) (rest := []) E hW (c_X12_fieldAt l G cI cJ cZ cD cR cT kp L f255 hW.2.2.2 _ u2 (by omega)) wk_X12_fieldAt tw_1624 rfl ⟨Nat.le_of_ble_eq_true rfl, Nat.le_of_ble_eq_true rfl⟩ ⟨rfl, rfl⟩ hl.1 rfl (Nat.le_of_ble_eq_true rfl) dX12_setFor_54 ⟨Nat.le_of_ble_eq_true rfl, Nat.le_of_ble_eq_true rfl⟩ (fun v709 f710 H locs q711 hW => ?_)
          obtain ⟨⟨x713, rfl, p714⟩, g712⟩ := q711
          have m715 : aI (f710 pR) (8 : Int32).toNatClampNeg = y232 := ((congrArg (fun z => aI z (8 : Int32).toNatClampNeg) (fm_A g712 rR (by decide) rfl)).trans ((congrArg (fun z => aI z (8 : Int32).toNatClampNeg) (fm_A g258 rR (by decide) rfl)).trans m251))
          have hF := FM.tr hF g712 rfl
          refine lv_istore_n (lv' := [(3, .int x713), (0, .ref h0), (1, .int u1), (2, .int u2)]) hx hb dX12_setFor_57 rfl hl (by decide) rfl (fun ls hl => ?_)
          refine lv_aload_n hx hb dX12_setFor_58 rfl (lv_at hl 1 rfl) ?_
          refine fg_RX12_60 E hW rh0 dX12_setFor_59 (fun a716 m717 r718 => ?_)
          obtain rfl : a226 = a716 := (((fm_R g712 rh0 rfl).trans ((fm_R g258 rh0 rfl).trans ((fm_R g248 rh0 rfl).trans m243)))).symm.trans m717
          refine lv_iconst (v := 1) hx hb dX12_setFor_62 (by decide) ?_
          refine lv_aload_n hx hb dX12_setFor_63 rfl (lv_at hl 1 rfl) ?_
          refine fg_RX12_8 E hW rh0 dX12_setFor_64 (fun a719 m720 r721 => ?_)
          obtain rfl : pR = a719 := (((fm_R g712 rh0 rfl).trans ((fm_R g258 rh0 rfl).trans ((fm_R g248 rh0 rfl).trans ((fm_R g241 rh0 rfl).trans m230))))).symm.trans m720
          refine lv_iload_n hx hb dX12_setFor_67 rfl (lv_at hl 0 rfl) ?_
          refine lv_iconst (v := 1) hx hb dX12_setFor_68 (by decide) ?_
          refine q_iadd (Y := 1) hx hb dX12_setFor_69 rfl rfl (by omega) (fun x722 h723 => ?_)
          refine gl_822 E hW rR ⟨by omega, by omega⟩ dX12_setFor_70 (fun y724 m725 b726 => ?_)
          refine q_i2l hx hb dX12_setFor_71 rfl (fun x727 h728 => ?_)
          have hb729 : -2147483648 ≤ x727.toInt ∧ x727.toInt ≤ 2147483647 := by have := i32_b y724; omega
          refine gs_851 E hW r228 (by decide) dX12_setFor_72 (fun f730 H locs e731 n732 g733 hW => ?_)
          have hF := FM.tr hF g733 rfl
          refine lv_aload_n hx hb dX12_setFor_73 rfl (lv_at hl 1 rfl) ?_
          refine fg_RX12_60 E hW rh0 dX12_setFor_74 (fun a734 m735 r736 => ?_)
          obtain rfl : a226 = a734 := (((fm_R g733 rh0 rfl).trans m717)).symm.trans m735
          refine lv_iconst (v := 2) hx hb dX12_setFor_77 (by decide) ?_
          refine lv_aload_n hx hb dX12_setFor_78 rfl (lv_at hl 1 rfl) ?_
          refine fg_RX12_8 E hW rh0 dX12_setFor_79 (fun a737 m738 r739 => ?_)
          obtain rfl : pR = a737 := (((fm_R g733 rh0 rfl).trans m720)).symm.trans m738
          refine lv_iload_n hx hb dX12_setFor_82 rfl (lv_at hl 0 rfl) ?_
          refine lv_iconst (v := 2) hx hb dX12_setFor_83 (by decide) ?_
          refine q_iadd (Y := 2) hx hb dX12_setFor_84 rfl rfl (by omega) (fun x740 h741 => ?_)
          refine gl_822 E hW rR ⟨by omega, by omega⟩ dX12_setFor_85 (fun y742 m743 b744 => ?_)
          refine q_i2l hx hb dX12_setFor_86 rfl (fun x745 h746 => ?_)
          have hb747 : -2147483648 ≤ x745.toInt ∧ x745.toInt ≤ 2147483647 := by have := i32_b y742; omega
          refine gs_851 E hW r228 (by decide) dX12_setFor_87 (fun f748 H locs e749 n750 g751 hW => ?_)
          have m752 : aI (f748 pR) (8 : Int32).toNatClampNeg = y232 := ((congrArg (fun z => aI z (8 : Int32).toNatClampNeg) (fm_A g751 rR (by decide) rfl)).trans ((congrArg (fun z => aI z (8 : Int32).toNatClampNeg) (fm_A g733 rR (by decide) rfl)).trans m715))
          have m753 : aI (f748 pR) (x722 : Int32).toNatClampNeg = y724 := ((congrArg (fun z => aI z (x722 : Int32).toNatClampNeg) (fm_A g751 rR (by decide) rfl)).trans ((congrArg (fun z => aI z (x722 : Int32).toNatClampNeg) (fm_A g733 rR (by decide) rfl)).trans m725))
          have hF := FM.tr hF g751 rfl
          refine lv_aload_n hx hb dX12_setFor_88 rfl (lv_at hl 1 rfl) ?_
          refine fg_RX12_60 E hW rh0 dX12_setFor_89 (fun a754 m755 r756 => ?_)
          obtain rfl : a226 = a754 := (((fm_R g751 rh0 rfl).trans m735)).symm.trans m755
          refine lv_iconst (v := 3) hx hb dX12_setFor_92 (by decide) ?_
          refine lv_aload_n hx hb dX12_setFor_93 rfl (lv_at hl 1 rfl) ?_
          refine fg_RX12_8 E hW rh0 dX12_setFor_94 (fun a757 m758 r759 => ?_)
          obtain rfl : pR = a757 := (((fm_R g751 rh0 rfl).trans m738)).symm.trans m758
          refine lv_iload_n hx hb dX12_setFor_97 rfl (lv_at hl 0 rfl) ?_
          refine lv_iconst (v := 4) hx hb dX12_setFor_98 (by decide) ?_
          refine q_iadd (Y := 4) hx hb dX12_setFor_99 rfl rfl (by omega) (fun x760 h761 => ?_)
          refine gl_822 E hW rR ⟨by omega, by omega⟩ dX12_setFor_100 (fun y762 m763 b764 => ?_)
          refine q_i2l hx hb dX12_setFor_101 rfl (fun x765 h766 => ?_)
          have hb767 : -2147483648 ≤ x765.toInt ∧ x765.toInt ≤ 2147483647 := by have := i32_b y762; omega
          refine gs_851 E hW r228 (by decide) dX12_setFor_102 (fun f768 H locs e769 n770 g771 hW => ?_)
          have m772 : aI (f768 pR) (x740 : Int32).toNatClampNeg = y742 := ((congrArg (fun z => aI z (x740 : Int32).toNatClampNeg) (fm_A g771 rR (by decide) rfl)).trans ((congrArg (fun z => aI z (x740 : Int32).toNatClampNeg) (fm_A g751 rR (by decide) rfl)).trans m743))
          have hF := FM.tr hF g771 rfl
          refine lv_aload_n hx hb dX12_setFor_103 rfl (lv_at hl 1 rfl) ?_
          refine fg_RX12_60 E hW rh0 dX12_setFor_104 (fun a773 m774 r775 => ?_)
          obtain rfl : a226 = a773 := (((fm_R g771 rh0 rfl).trans m755)).symm.trans m774
          refine lv_bipush (v := 10) hx hb dX12_setFor_107 (by decide) ?_
          refine lv_aload_n hx hb dX12_setFor_109 rfl (lv_at hl 1 rfl) ?_
          refine fg_RX12_8 E hW rh0 dX12_setFor_110 (fun a776 m777 r778 => ?_)
          obtain rfl : pR = a776 := (((fm_R g771 rh0 rfl).trans m758)).symm.trans m777
          refine lv_iload_n hx hb dX12_setFor_113 rfl (lv_at hl 0 rfl) ?_
          refine gl_822 E hW rR ⟨by omega, by omega⟩ dX12_setFor_114 (fun y779 m780 b781 => ?_)
          have b782 := rr_fest (show RowInv _ from b781) m780 (by omega)
          refine q_i2l hx hb dX12_setFor_115 rfl (fun x783 h784 => ?_)
          refine gs_851 E hW r228 (by decide) dX12_setFor_116 (fun f785 H locs e786 n787 g788 hW => ?_)
          have m789 : aI (f785 pR) (8 : Int32).toNatClampNeg = y232 := ((congrArg (fun z => aI z (8 : Int32).toNatClampNeg) (fm_A g788 rR (by decide) rfl)).trans ((congrArg (fun z => aI z (8 : Int32).toNatClampNeg) (fm_A g771 rR (by decide) rfl)).trans m752))
          have m790 : aI (f785 pR) (x722 : Int32).toNatClampNeg = y724 := ((congrArg (fun z => aI z (x722 : Int32).toNatClampNeg) (fm_A g788 rR (by decide) rfl)).trans ((congrArg (fun z => aI z (x722 : Int32).toNatClampNeg) (fm_A g771 rR (by decide) rfl)).trans m753))
          have m791 : aI (f785 pR) (x760 : Int32).toNatClampNeg = y762 := ((congrArg (fun z => aI z (x760 : Int32).toNatClampNeg) (fm_A g788 rR (by decide) rfl)).trans ((congrArg (fun z => aI z (x760 : Int32).toNatClampNeg) (fm_A g771 rR (by decide) rfl)).trans m763))
          have hF := FM.tr hF g788 rfl
          exact J341 f785 x713 ((fm_R g788 rh0 rfl).trans m777) ((fm_R g788 rh0 rfl).trans m774) m789 (by omega) _ _ _ hW hF (lv_sub hl [0, 1, 2, 3] rfl)
      · refine lv_aload_n hx hb dX12_setFor_8 rfl (lv_at hl 1 rfl) ?_
        refine fg_RX12_60 E hW rh0 dX12_setFor_9 (fun a792 m793 r794 => ?_)
        refine lv_iload_n hx hb dX12_setFor_12 rfl (lv_at hl 0 rfl) ?_
        refine lv_lconst (v := 0) hx hb dX12_setFor_13 (by decide) ?_
        refine gs_851 E hW r794 ⟨by omega, by omega⟩ dX12_setFor_14 (fun f795 H locs e796 n797 g798 hW => ?_)
        have hF := FM.tr hF g798 rfl
        refine q_iinc hx hb dX12_setFor_15 hl (k := 0) rfl rfl rfl (by omega) (by decide) (fun i799 ls h800 hl => ?_)
        have hl : lv_has ls 4 [(3, .int i799), (0, .ref h0), (1, .int u1), (2, .int u2)] := hl
        refine lv_goto (tgt := 2) hx hb dX12_setFor_18 (by decide) ?_
        exact ih2 f795 i799 ((fm_R g798 rh0 rfl).trans m212) (by omega) (by omega) _ _ _ hW hF (lv_sub hl [0, 1, 2, 3] rfl)
  have hk801 : (0 : Int32).toInt = 0 := rfl
  exact L215 20 f0 0 mR (by decide) (by omega) _ _ _ hW hF (lv_sub hl [0, 1, 2, 3] rfl)
def ms_X12_find : List (Nat × Nat) := [(12, 33), (12, 34), (12, 35), (12, 36), (12, 37), (851, 0), (852, 0)]
def po_X12_find (kp : Nat → Nat) (L : List Nat) (f0 : Nat → va_E) (h0 : Nat) (u1 : Int32) (u2 : Int32) (u3 : Int32) : Option Value → (Nat → va_E) → Prop := fun v f => (∃ r : Int32, v = some (.int r) ∧ ((0 : Int) ≤ r.toInt ∧ r.toInt ≤ 1)) ∧ FM kp L ms_X12_find f0 f
set_option maxHeartbeats 4000000 in
set_option maxRecDepth 100000 in
theorem c_X12_find (l : Launch) (G : va_G) (cI cJ cZ cD cR cT : ClassId) (kp : Nat → Nat) (L : List Nat) (f0 : Nat → va_E) (hTH : TH cI cJ cZ cD cR cT kp L f0) (sz : Nat) (h0 : Nat) (u1 : Int32) (u2 : Int32) (u3 : Int32) (rh0 : RK kp L h0 12) (pu1 : (2 : Int) ≤ u1.toInt ∧ u1.toInt ≤ 6) (pu2 : (-1 : Int) ≤ u2.toInt ∧ u2.toInt ≤ 39) (pu3 : (-1 : Int) ≤ u3.toInt ∧ u3.toInt ≤ 39) (hTX : TX (aI (f0 (oR (f0 h0) 2)))) : Met l yX12_find (Cond.code yX12_find cX12_find 7 (some .boolean) :: wTab) ({ frames := 4, cells := 0, slots := 0, locals := 115 }) (va_Pc [.ref h0, .int u1, .int u2, .int u3] (PreW G (tys6 cI cJ cZ cD cR cT) (va_pl L f0) sz)) (QT (po_X12_find kp L f0 h0 u1 u2 u3) G cI cJ cZ cD cR cT (va_A (va_pl L f0) sz) kp L) 0 0 (va_A (va_pl L f0) sz) := by
  refine metT (by decide) (Nat.le_of_ble_eq_true rfl) hTH ?_
  intro p e s m below meth c A ls E hW hl
  obtain ⟨hx, hb, -, hml, hown, hts, -, -, -⟩ := id E
  have hF : FM kp L ms_X12_find f0 f0 := FM.rf
  have hl : lv_has ls 7 [(0, .ref h0), (1, .int u1), (2, .int u2), (3, .int u3)] := hl
  obtain ⟨pR, mR⟩ : ∃ x : Nat, oR (f0 h0) 2 = x := ⟨_, rfl⟩
  have rR : RK kp L pR 822 := by rw [← mR]; exact th_ref hTH rh0 (by decide) (by decide) rfl
  rw [mR] at hTX
  refine lv_iconst (v := 0) hx hb dX12_find_0 (by decide) ?_
  refine lv_istore (lv' := [(4, .int 0), (0, .ref h0), (1, .int u1), (2, .int u2), (3, .int u3)]) hx hb dX12_find_1 hl (by decide) rfl (fun ls hl => ?_)
  refine lv_aload_n hx hb dX12_find_3 rfl (lv_at hl 1 rfl) ?_
  refine lv_lconst (v := 0) hx hb dX12_find_4 (by decide) ?_
  refine fp_RX12_427 E hW rh0 dX12_find_5 (fun f1 H locs e2 n3 g4 hW => ?_)
  have hF := FM.tr hF g4 rfl
  refine lv_aload_n hx hb dX12_find_8 rfl (lv_at hl 1 rfl) ?_
  refine lv_lconst (v := 0) hx hb dX12_find_9 (by decide) ?_
  refine fp_RX12_430 E hW rh0 dX12_find_10 (fun f5 H locs e6 n7 g8 hW => ?_)
  have hF := FM.tr hF g8 rfl
  refine lv_aload_n hx hb dX12_find_13 rfl (lv_at hl 1 rfl) ?_
  refine lv_iload_n hx hb dX12_find_14 rfl (lv_at hl 3 rfl) ?_
  refine lv_iload_n hx hb dX12_find_15 rfl (lv_at hl 4 rfl) ?_
  refine t_callV (As := [.int u2, .int u3]) (rest := []) E hW (c_X12_setFor l G cI cJ cZ cD cR cT kp L f5 hW.2.2.2 _ h0 u2 u3 rh0 (by omega) (by omega)) rh0 (by decide) rfl wk_X12_setFor tw_1673 rfl ⟨Nat.le_of_ble_eq_true rfl, Nat.le_of_ble_eq_true rfl⟩ ⟨rfl, rfl⟩ hl.1 rfl (Nat.le_of_ble_eq_true rfl) dX12_find_16 ⟨Nat.le_of_ble_eq_true rfl, Nat.le_of_ble_eq_true rfl⟩ (fun v9 f10 H locs q11 hW => ?_)
  obtain ⟨rfl, g12⟩ := q11
  have hF := FM.tr hF g12 rfl
  refine lv_iconst (v := 0) hx hb dX12_find_19 (by decide) ?_
  refine lv_istore (lv' := [(5, .int 0), (4, .int 0), (0, .ref h0), (1, .int u1), (2, .int u2), (3, .int u3)]) hx hb dX12_find_20 hl (by decide) rfl (fun ls hl => ?_)
  have L22995 : ∀ (n : Nat), ∀ (f22989 : Nat → va_E) (y22991 : Int32) (y22993 : Int32) (m22990 : oR (f22989 h0) 2 = pR) (b22992 : (0 : Int) ≤ y22991.toInt ∧ y22991.toInt ≤ 20) (b22994 : (0 : Int) ≤ y22993.toInt ∧ y22993.toInt ≤ 1) (hm : (21 : Int) - y22991.toInt ≤ n) (H : Heap) (locs : List Loc) (ls : Array Slot), WS G cI cJ cZ cD cR cT A kp L f22989 s H locs → FM kp L ms_X12_find f0 f22989 → lv_has ls 7 [(5, .int y22991), (4, .int y22993), (0, .ref h0), (1, .int u1), (2, .int u2), (3, .int u3)] → W p l e ({ frames := 4, cells := 0, slots := 0, locals := 115 }) s m ([.ref h0, .int u1, .int u2, .int u3] : List Value).toArray below meth c H locs 0 0 (MQ below (QT (po_X12_find kp L f0 h0 u1 u2 u3) G cI cJ cZ cD cR cT A kp L) ([.ref h0, .int u1, .int u2, .int u3] : List Value).toArray s 0 0 A) (F0 m 22 ls []) := by
    intro n
    induction n with
    | zero =>
      intro f22989 y22991 y22993 m22990 b22992 b22994 hm H locs ls hW hF hl
      have hz := i32_b y22991
      exfalso; omega
    | succ n ih =>
      intro f22989 y22991 y22993 m22990 b22992 b22994 hm H locs ls hW hF hl
      have ih22 := ih
      refine lv_iload hx hb dX12_find_22 (lv_at hl 0 rfl) ?_
      refine lv_aload_n hx hb dX12_find_24 rfl (lv_at hl 2 rfl) ?_
      refine fg_RX12_8 E hW rh0 dX12_find_25 (fun a22996 m22997 r22998 => ?_)
      obtain rfl : pR = a22996 := (m22990).symm.trans m22997
      refine lv_iconst (v := 3) hx hb dX12_find_28 (by decide) ?_
      refine gl_822 E hW rR (by decide) dX12_find_29 (fun y22999 m23000 b23001 => ?_)
      have b23002 := rr_3 (show RowInv _ from b23001) m23000 (by decide)
      refine q_icmp_ge (tgt := 127) hx hb dX12_find_30 (by decide) rfl rfl (fun c24425 => ?_) (fun c24425 => ?_)
      · refine lv_iload hx hb dX12_find_127 (lv_at hl 1 rfl) ?_
        exact e_Z E hW rfl (by omega) ⟨⟨_, rfl, (by first | omega | trivial)⟩, hF⟩ dX12_find_129
      · refine lv_iconst (v := 0) hx hb dX12_find_33 (by decide) ?_
        refine lv_istore (lv' := [(6, .int 0), (5, .int y22991), (4, .int y22993), (0, .ref h0), (1, .int u1), (2, .int u2), (3, .int u3)]) hx hb dX12_find_34 hl (by decide) rfl (fun ls hl => ?_)
        have L25669 : ∀ (n : Nat), ∀ (f25662 : Nat → va_E) (y25665 : Int32) (y25667 : Int32) (m25663 : oR (f25662 h0) 2 = pR) (m25664 : aI (f25662 pR) (3 : Int32).toNatClampNeg = y22999) (b25666 : (0 : Int) ≤ y25665.toInt ∧ y25665.toInt ≤ 12) (b25668 : (0 : Int) ≤ y25667.toInt ∧ y25667.toInt ≤ 1) (hm : (13 : Int) - y25665.toInt ≤ n) (H : Heap) (locs : List Loc) (ls : Array Slot), WS G cI cJ cZ cD cR cT A kp L f25662 s H locs → FM kp L ms_X12_find f0 f25662 → lv_has ls 7 [(6, .int y25665), (5, .int y22991), (4, .int y25667), (0, .ref h0), (1, .int u1), (2, .int u2), (3, .int u3)] → W p l e ({ frames := 4, cells := 0, slots := 0, locals := 115 }) s m ([.ref h0, .int u1, .int u2, .int u3] : List Value).toArray below meth c H locs 0 0 (MQ below (QT (po_X12_find kp L f0 h0 u1 u2 u3) G cI cJ cZ cD cR cT A kp L) ([.ref h0, .int u1, .int u2, .int u3] : List Value).toArray s 0 0 A) (F0 m 36 ls []) := by
          intro n
          induction n with
          | zero =>
            intro f25662 y25665 y25667 m25663 m25664 b25666 b25668 hm H locs ls hW hF hl
            have hz := i32_b y25665
            exfalso; omega
          | succ n ih =>
            intro f25662 y25665 y25667 m25663 m25664 b25666 b25668 hm H locs ls hW hF hl
            clear b22994
            have ih36 := ih
            refine lv_iload hx hb dX12_find_36 (lv_at hl 0 rfl) ?_
            refine lv_aload_n hx hb dX12_find_38 rfl (lv_at hl 3 rfl) ?_
            refine fg_RX12_8 E hW rh0 dX12_find_39 (fun a25670 m25671 r25672 => ?_)
            obtain rfl : pR = a25670 := (m25663).symm.trans m25671
            refine lv_iload hx hb dX12_find_42 (lv_at hl 1 rfl) ?_
            refine t_callS (As := [.int y22991]) (rest := [.ref pR, .int y25665]) E hW (c_X12_textAt l G cI cJ cZ cD cR cT kp L f25662 hW.2.2.2 _ y22991 (by omega)) wk_X12_textAt tw_1655 rfl ⟨Nat.le_of_ble_eq_true rfl, Nat.le_of_ble_eq_true rfl⟩ ⟨rfl, rfl⟩ hl.1 rfl (Nat.le_of_ble_eq_true rfl) dX12_find_44 ⟨Nat.le_of_ble_eq_true rfl, Nat.le_of_ble_eq_true rfl⟩ (fun v25673 f25674 H locs q25675 hW => ?_)
            obtain ⟨⟨x25677, rfl, p25678⟩, g25676⟩ := q25675
            have hF := FM.tr hF g25676 rfl
            refine lv_iconst (v := 1) hx hb dX12_find_47 (by decide) ?_
            refine q_iadd (Y := 1) hx hb dX12_find_48 rfl rfl (by omega) (fun x25679 h25680 => ?_)
            refine gl_822 E hW rR ⟨by omega, by omega⟩ dX12_find_49 (fun y25681 m25682 b25683 => ?_)
            have b25684 := tx_n (t := y22991) (by rw [fm_A hF rR (by decide) rfl]; exact hTX) (by omega) (by have z : aI (f25674 pR) 3 = y22999 := ((congrArg (fun z => aI z (3 : Int32).toNatClampNeg) (fm_A g25676 rR (by decide) rfl)).trans m25664); rw [z]; omega) m25682 (by omega)
            refine q_icmp_ge (tgt := 121) hx hb dX12_find_50 (by decide) rfl rfl (fun c25765 => ?_) (fun c25765 => ?_)
            · refine q_iinc hx hb dX12_find_121 hl (k := 1) rfl rfl rfl (by omega) (by decide) (fun i25766 ls h25767 hl => ?_)
              have hl : lv_has ls 7 [(5, .int i25766), (6, .int y25665), (4, .int y25667), (0, .ref h0), (1, .int u1), (2, .int u2), (3, .int u3)] := hl
              refine lv_goto (tgt := 22) hx hb dX12_find_124 (by decide) ?_
              exact ih22 f25674 i25766 y25667 ((fm_R g25676 rh0 rfl).trans m25671) (by omega) (by omega) (by omega) _ _ _ hW hF (lv_sub hl [0, 2, 3, 4, 5, 6] rfl)
            · refine lv_aload_n hx hb dX12_find_53 rfl (lv_at hl 3 rfl) ?_
              refine fg_RX12_8 E hW rh0 dX12_find_54 (fun a25768 m25769 r25770 => ?_)
              obtain rfl : pR = a25768 := (((fm_R g25676 rh0 rfl).trans m25671)).symm.trans m25769
              refine lv_iload hx hb dX12_find_57 (lv_at hl 1 rfl) ?_
              refine lv_iload hx hb dX12_find_59 (lv_at hl 0 rfl) ?_
              refine t_callS (As := [.int y22991, .int y25665]) (rest := [.ref pR]) E hW (c_X12_clauseAt l G cI cJ cZ cD cR cT kp L f25674 hW.2.2.2 _ y22991 y25665 (by omega) (by omega)) wk_X12_clauseAt tw_1658 rfl ⟨Nat.le_of_ble_eq_true rfl, Nat.le_of_ble_eq_true rfl⟩ ⟨rfl, rfl⟩ hl.1 rfl (Nat.le_of_ble_eq_true rfl) dX12_find_61 ⟨Nat.le_of_ble_eq_true rfl, Nat.le_of_ble_eq_true rfl⟩ (fun v25771 f25772 H locs q25773 hW => ?_)
              obtain ⟨⟨x25775, rfl, p25776⟩, g25774⟩ := q25773
              have m25777 : aI (f25772 pR) (3 : Int32).toNatClampNeg = y22999 := ((congrArg (fun z => aI z (3 : Int32).toNatClampNeg) (fm_A g25774 rR (by decide) rfl)).trans ((congrArg (fun z => aI z (3 : Int32).toNatClampNeg) (fm_A g25676 rR (by decide) rfl)).trans m25664))
              have hF := FM.tr hF g25774 rfl
              refine gl_822 E hW rR ⟨by omega, by omega⟩ dX12_find_64 (fun y25778 m25779 b25780 => ?_)
              refine lv_iload_n hx hb dX12_find_65 rfl (lv_at hl 4 rfl) ?_
              have J25816 : ∀ (f25811 : Nat → va_E) (y25814 : Int32) (m25812 : oR (f25811 h0) 2 = pR) (m25813 : aI (f25811 pR) (3 : Int32).toNatClampNeg = y22999) (b25815 : (0 : Int) ≤ y25814.toInt ∧ y25814.toInt ≤ 1) (H : Heap) (locs : List Loc) (ls : Array Slot), WS G cI cJ cZ cD cR cT A kp L f25811 s H locs → FM kp L ms_X12_find f0 f25811 → lv_has ls 7 [(6, .int y25665), (5, .int y22991), (4, .int y25814), (0, .ref h0), (1, .int u1), (2, .int u2), (3, .int u3)] → W p l e ({ frames := 4, cells := 0, slots := 0, locals := 115 }) s m ([.ref h0, .int u1, .int u2, .int u3] : List Value).toArray below meth c H locs 0 0 (MQ below (QT (po_X12_find kp L f0 h0 u1 u2 u3) G cI cJ cZ cD cR cT A kp L) ([.ref h0, .int u1, .int u2, .int u3] : List Value).toArray s 0 0 A) (F0 m 115 ls []) := by
                intro f25811 y25814 m25812 m25813 b25815 H locs ls hW hF hl
                clear b25668
                refine q_iinc hx hb dX12_find_115 hl (k := 0) rfl rfl rfl (by omega) (by decide) (fun i25817 ls h25818 hl => ?_)
                have hl : lv_has ls 7 [(6, .int i25817), (5, .int y22991), (4, .int y25814), (0, .ref h0), (1, .int u1), (2, .int u2), (3, .int u3)] := hl
                refine lv_goto (tgt := 36) hx hb dX12_find_118 (by decide) ?_
                exact ih36 f25811 i25817 y25814 m25812 m25813 (by omega) (by omega) (by omega) _ _ _ hW hF (lv_sub hl [0, 1, 2, 3, 4, 5, 6] rfl)
              refine q_icmp_ne (tgt := 115) hx hb dX12_find_66 (by decide) rfl rfl (fun c25819 => ?_) (fun c25819 => ?_)
              · exact J25816 f25772 y25667 ((fm_R g25774 rh0 rfl).trans m25769) m25777 (by omega) _ _ _ hW hF (lv_sub hl [0, 1, 2, 3, 4, 5, 6] rfl)
              · refine lv_aload_n hx hb dX12_find_69 rfl (lv_at hl 3 rfl) ?_
                refine lv_iload hx hb dX12_find_70 (lv_at hl 1 rfl) ?_
                refine lv_iload hx hb dX12_find_72 (lv_at hl 0 rfl) ?_
                refine t_callV (As := [.int y22991, .int y25665]) (rest := []) E hW (c_X12_isIn l G cI cJ cZ cD cR cT kp L f25772 hW.2.2.2 _ h0 y22991 y25665 rh0 (by omega) (by omega)) rh0 (by decide) rfl wk_X12_isIn tw_1685 rfl ⟨Nat.le_of_ble_eq_true rfl, Nat.le_of_ble_eq_true rfl⟩ ⟨rfl, rfl⟩ hl.1 rfl (Nat.le_of_ble_eq_true rfl) dX12_find_74 ⟨Nat.le_of_ble_eq_true rfl, Nat.le_of_ble_eq_true rfl⟩ (fun v25820 f25821 H locs q25822 hW => ?_)
                obtain ⟨⟨x25824, rfl, p25825⟩, g25823⟩ := q25822
                have m25826 : aI (f25821 pR) (x25679 : Int32).toNatClampNeg = y25681 := ((congrArg (fun z => aI z (x25679 : Int32).toNatClampNeg) (fm_A g25823 rR (by decide) rfl)).trans ((congrArg (fun z => aI z (x25679 : Int32).toNatClampNeg) (fm_A g25774 rR (by decide) rfl)).trans m25682))
                have hF := FM.tr hF g25823 rfl
                refine q_if_eq (tgt := 115) hx hb dX12_find_77 (by decide) rfl (fun c25827 => ?_) (fun c25827 => ?_)
                · exact J25816 f25821 y25667 ((fm_R g25823 rh0 rfl).trans ((fm_R g25774 rh0 rfl).trans m25769)) ((congrArg (fun z => aI z (3 : Int32).toNatClampNeg) (fm_A g25823 rR (by decide) rfl)).trans m25777) (by omega) _ _ _ hW hF (lv_sub hl [0, 1, 2, 3, 4, 5, 6] rfl)
                · refine lv_aload_n hx hb dX12_find_80 rfl (lv_at hl 3 rfl) ?_
                  refine lv_iload hx hb dX12_find_81 (lv_at hl 1 rfl) ?_
                  refine lv_iload hx hb dX12_find_83 (lv_at hl 0 rfl) ?_
                  refine t_callV (As := [.int y22991, .int y25665]) (rest := []) E hW (c_X12_isSo l G cI cJ cZ cD cR cT kp L f25821 hW.2.2.2 _ h0 y22991 y25665 rh0 (by omega) (by omega) (by rw [((fm_R g25823 rh0 rfl).trans ((fm_R g25774 rh0 rfl).trans m25769))]; exact ⟨by have z : aI (f25821 pR) 3 = y22999 := ((congrArg (fun z => aI z (3 : Int32).toNatClampNeg) (fm_A g25823 rR (by decide) rfl)).trans m25777); rw [z]; omega, by rw [at_i m25826 (by omega) (by omega)]; omega⟩) (by rw [((fm_R g25823 rh0 rfl).trans ((fm_R g25774 rh0 rfl).trans m25769))]; exact (by rw [fm_A hF rR (by decide) rfl]; exact hTX))) rh0 (by decide) rfl wk_X12_isSo tw_1689 rfl ⟨Nat.le_of_ble_eq_true rfl, Nat.le_of_ble_eq_true rfl⟩ ⟨rfl, rfl⟩ hl.1 rfl (Nat.le_of_ble_eq_true rfl) dX12_find_85 ⟨Nat.le_of_ble_eq_true rfl, Nat.le_of_ble_eq_true rfl⟩ (fun v25828 f25829 H locs q25830 hW => ?_)
                  obtain ⟨⟨x25832, rfl, p25833⟩, g25831⟩ := q25830
                  have m25834 : aI (f25829 pR) (3 : Int32).toNatClampNeg = y22999 := ((congrArg (fun z => aI z (3 : Int32).toNatClampNeg) (fm_A g25831 rR (by decide) rfl)).trans ((congrArg (fun z => aI z (3 : Int32).toNatClampNeg) (fm_A g25823 rR (by decide) rfl)).trans m25777))
                  have m25835 : aI (f25829 pR) (x25775 : Int32).toNatClampNeg = y25778 := ((congrArg (fun z => aI z (x25775 : Int32).toNatClampNeg) (fm_A g25831 rR (by decide) rfl)).trans ((congrArg (fun z => aI z (x25775 : Int32).toNatClampNeg) (fm_A g25823 rR (by decide) rfl)).trans m25779))
                  have hF := FM.tr hF g25831 rfl
                  refine q_if_eq (tgt := 115) hx hb dX12_find_88 (by decide) rfl (fun c25836 => ?_) (fun c25836 => ?_)
                  · exact J25816 f25829 y25667 ((fm_R g25831 rh0 rfl).trans ((fm_R g25823 rh0 rfl).trans ((fm_R g25774 rh0 rfl).trans m25769))) m25834 (by omega) _ _ _ hW hF (lv_sub hl [0, 1, 2, 3, 4, 5, 6] rfl)
                  · refine lv_iconst (v := 1) hx hb dX12_find_91 (by decide) ?_
                    refine lv_istore (lv' := [(4, .int 1), (6, .int y25665), (5, .int y22991), (0, .ref h0), (1, .int u1), (2, .int u2), (3, .int u3)]) hx hb dX12_find_92 hl (by decide) rfl (fun ls hl => ?_)
                    refine lv_aload_n hx hb dX12_find_94 rfl (lv_at hl 3 rfl) ?_
                    refine lv_aload_n hx hb dX12_find_95 rfl (lv_at hl 3 rfl) ?_
                    refine fg_RX12_424 E hW rh0 dX12_find_96 (fun y25837 m25838 => ?_)
                    refine fp_RX12_427 E hW rh0 dX12_find_99 (fun f25839 H locs e25840 n25841 g25842 hW => ?_)
                    have m25843 : aI (f25839 pR) (x25679 : Int32).toNatClampNeg = y25681 := ((congrArg (fun z => aI z (x25679 : Int32).toNatClampNeg) (fm_A g25842 rR (by decide) rfl)).trans ((congrArg (fun z => aI z (x25679 : Int32).toNatClampNeg) (fm_A g25831 rR (by decide) rfl)).trans m25826))
                    have hF := FM.tr hF g25842 rfl
                    refine lv_aload_n hx hb dX12_find_102 rfl (lv_at hl 3 rfl) ?_
                    refine lv_dup hx hb dX12_find_103 rfl ?_
                    refine fg_RX12_430 E hW rh0 dX12_find_104 (fun y25844 m25845 => ?_)
                    refine lv_aload_n hx hb dX12_find_107 rfl (lv_at hl 3 rfl) ?_
                    refine fg_RX12_424 E hW rh0 dX12_find_108 (fun y25846 m25847 => ?_)
                    refine u_ladd hx hb dX12_find_111 (fun x25848 => ?_)
                    refine fp_RX12_430 E hW rh0 dX12_find_112 (fun f25849 H locs e25850 n25851 g25852 hW => ?_)
                    have m25853 : aI (f25849 pR) (3 : Int32).toNatClampNeg = y22999 := ((congrArg (fun z => aI z (3 : Int32).toNatClampNeg) (fm_A g25852 rR (by decide) rfl)).trans ((congrArg (fun z => aI z (3 : Int32).toNatClampNeg) (fm_A g25842 rR (by decide) rfl)).trans m25834))
                    have m25854 : aI (f25849 pR) (x25775 : Int32).toNatClampNeg = y25778 := ((congrArg (fun z => aI z (x25775 : Int32).toNatClampNeg) (fm_A g25852 rR (by decide) rfl)).trans ((congrArg (fun z => aI z (x25775 : Int32).toNatClampNeg) (fm_A g25842 rR (by decide) rfl)).trans m25835))
                    have hF := FM.tr hF g25852 rfl
                    exact J25816 f25849 1 ((fm_R g25852 rh0 rfl).trans ((fm_R g25842 rh0 rfl).trans ((fm_R g25831 rh0 rfl).trans ((fm_R g25823 rh0 rfl).trans ((fm_R g25774 rh0 rfl).trans m25769))))) m25853 (by decide) _ _ _ hW hF (lv_sub hl [1, 2, 0, 3, 4, 5, 6] rfl)
        have hk25855 : (0 : Int32).toInt = 0 := rfl
        exact L25669 13 f22989 0 y22993 m22997 m23000 (by decide) (by omega) (by omega) _ _ _ hW hF (lv_sub hl [0, 1, 2, 3, 4, 5, 6] rfl)
  have hk25856 : (0 : Int32).toInt = 0 := rfl
  have hk25857 : (0 : Int32).toInt = 0 := rfl
  exact L22995 21 f10 0 0 ((fm_R g12 rh0 rfl).trans ((fm_R g8 rh0 rfl).trans ((fm_R g4 rh0 rfl).trans mR))) (by decide) (by decide) (by omega) _ _ _ hW hF (lv_sub hl [0, 1, 2, 3, 4, 5] rfl)
def ms_X12_holds : List (Nat × Nat) := [(12, 0), (12, 33), (12, 34), (12, 35), (849, 0), (850, 0), (851, 0), (852, 0)]
def po_X12_holds (kp : Nat → Nat) (L : List Nat) (f0 : Nat → va_E) (h0 : Nat) (u1 : Int32) (u2 : Int32) (u3 : Int32) (u4 : Int32) : Option Value → (Nat → va_E) → Prop := fun v f => (∃ r : Int32, v = some (.int r) ∧ ((-1 : Int) ≤ r.toInt ∧ r.toInt ≤ 1)) ∧ FM kp L ms_X12_holds f0 f
set_option maxHeartbeats 4000000 in
set_option maxRecDepth 100000 in
theorem c_X12_holds (l : Launch) (G : va_G) (cI cJ cZ cD cR cT : ClassId) (kp : Nat → Nat) (L : List Nat) (f0 : Nat → va_E) (hTH : TH cI cJ cZ cD cR cT kp L f0) (sz : Nat) (h0 : Nat) (u1 : Int32) (u2 : Int32) (u3 : Int32) (u4 : Int32) (rh0 : RK kp L h0 12) (hTX : TX (aI (f0 (oR (f0 h0) 2)))) : Met l yX12_holds (Cond.code yX12_holds cX12_holds 5 (some .int) :: wTab) ({ frames := 5, cells := 0, slots := 0, locals := 125 }) (va_Pc [.ref h0, .int u1, .int u2, .int u3, .int u4] (PreW G (tys6 cI cJ cZ cD cR cT) (va_pl L f0) sz)) (QT (po_X12_holds kp L f0 h0 u1 u2 u3 u4) G cI cJ cZ cD cR cT (va_A (va_pl L f0) sz) kp L) 0 0 (va_A (va_pl L f0) sz) := by
  refine metT (by decide) (Nat.le_of_ble_eq_true rfl) hTH ?_
  intro p e s m below meth c A ls E hW hl
  obtain ⟨hx, hb, -, hml, hown, hts, -, -, -⟩ := id E
  have hF : FM kp L ms_X12_holds f0 f0 := FM.rf
  have hl : lv_has ls 5 [(0, .ref h0), (1, .int u1), (2, .int u2), (3, .int u3), (4, .int u4)] := hl
  obtain ⟨pR, mR⟩ : ∃ x : Nat, oR (f0 h0) 2 = x := ⟨_, rfl⟩
  have rR : RK kp L pR 822 := by rw [← mR]; exact th_ref hTH rh0 (by decide) (by decide) rfl
  rw [mR] at hTX
  refine lv_aload_n hx hb dX12_holds_0 rfl (lv_at hl 0 rfl) ?_
  refine lv_iconst (v := 0) hx hb dX12_holds_1 (by decide) ?_
  refine fp_RX12_82 E hW rh0 dX12_holds_2 (fun f1 H locs e2 n3 g4 hW => ?_)
  have hF := FM.tr hF g4 rfl
  refine lv_iload_n hx hb dX12_holds_5 rfl (lv_at hl 1 rfl) ?_
  refine q_i2l hx hb dX12_holds_6 rfl (fun x5 h6 => ?_)
  have hb7 : -2147483648 ≤ x5.toInt ∧ x5.toInt ≤ 2147483647 := by have := i32_b u1; omega
  refine lv_lconst (v := 0) hx hb dX12_holds_7 (by decide) ?_
  refine lv_aload_n hx hb dX12_holds_8 rfl (lv_at hl 0 rfl) ?_
  refine fg_RX12_8 E hW rh0 dX12_holds_9 (fun a8 m9 r10 => ?_)
  obtain rfl : pR = a8 := (((fm_R g4 rh0 rfl).trans mR)).symm.trans m9
  refine lv_iconst (v := 3) hx hb dX12_holds_12 (by decide) ?_
  refine gl_822 E hW rR (by decide) dX12_holds_13 (fun y11 m12 b13 => ?_)
  have b14 := rr_3 (show RowInv _ from b13) m12 (by decide)
  refine q_i2l hx hb dX12_holds_14 rfl (fun x15 h16 => ?_)
  refine lv_lconst (v := 1) hx hb dX12_holds_15 (by decide) ?_
  refine q_lsub (Y := 1) hx hb dX12_holds_16 rfl rfl (by omega) (fun x17 h18 => ?_)
  refine t_callS (As := [.long x5, .long 0, .long x17]) (rest := []) E hW (c_X12_in l G cI cJ cZ cD cR cT kp L f1 hW.2.2.2 _ x5 0 x17) wk_X12_in tw_1554 rfl ⟨Nat.le_of_ble_eq_true rfl, Nat.le_of_ble_eq_true rfl⟩ ⟨rfl, rfl⟩ hl.1 rfl (Nat.le_of_ble_eq_true rfl) dX12_holds_17 ⟨Nat.le_of_ble_eq_true rfl, Nat.le_of_ble_eq_true rfl⟩ (fun v19 f20 H locs q21 hW => ?_)
  obtain ⟨⟨x23, rfl, p24⟩, g22⟩ := q21
  have p24 : (x23.toInt = 1 ∧ 0 ≤ x5.toInt ∧ x5.toInt ≤ x17.toInt) ∨ (x23.toInt = 0 ∧ (x5.toInt < 0 ∨ x17.toInt < x5.toInt)) := p24
  have hF := FM.tr hF g22 rfl
  refine q_if_eq (tgt := 74) hx hb dX12_holds_20 (by decide) rfl (fun c25 => ?_) (fun c25 => ?_)
  · have q26 : (x5.toInt < 0 ∨ x17.toInt < x5.toInt) := by omega
    clear p24
    refine lv_iconst (v := (-1)) hx hb dX12_holds_74 (by decide) ?_
    exact e_I E hW rfl ⟨⟨_, rfl, (by have hk : ((-1) : Int32).toInt = -1 := rfl; first | decide | omega)⟩, hF⟩ dX12_holds_75
  · have q27 : 0 ≤ x5.toInt ∧ x5.toInt ≤ x17.toInt := by omega
    clear p24
    refine lv_iload_n hx hb dX12_holds_23 rfl (lv_at hl 2 rfl) ?_
    refine q_i2l hx hb dX12_holds_24 rfl (fun x28 h29 => ?_)
    have hb30 : -2147483648 ≤ x28.toInt ∧ x28.toInt ≤ 2147483647 := by have := i32_b u2; omega
    refine lv_lconst (v := 0) hx hb dX12_holds_25 (by decide) ?_
    refine lv_aload_n hx hb dX12_holds_26 rfl (lv_at hl 0 rfl) ?_
    refine fg_RX12_8 E hW rh0 dX12_holds_27 (fun a31 m32 r33 => ?_)
    obtain rfl : pR = a31 := (((fm_R g22 rh0 rfl).trans m9)).symm.trans m32
    refine lv_iload_n hx hb dX12_holds_30 rfl (lv_at hl 1 rfl) ?_
    refine t_callS (As := [.int u1]) (rest := [.ref pR, .long 0, .long x28]) E hW (c_X12_textAt l G cI cJ cZ cD cR cT kp L f20 hW.2.2.2 _ u1 (by omega)) wk_X12_textAt tw_1655 rfl ⟨Nat.le_of_ble_eq_true rfl, Nat.le_of_ble_eq_true rfl⟩ ⟨rfl, rfl⟩ hl.1 rfl (Nat.le_of_ble_eq_true rfl) dX12_holds_31 ⟨Nat.le_of_ble_eq_true rfl, Nat.le_of_ble_eq_true rfl⟩ (fun v34 f35 H locs q36 hW => ?_)
    obtain ⟨⟨x38, rfl, p39⟩, g37⟩ := q36
    have m40 : aI (f35 pR) (3 : Int32).toNatClampNeg = y11 := ((congrArg (fun z => aI z (3 : Int32).toNatClampNeg) (fm_A g37 rR (by decide) rfl)).trans ((congrArg (fun z => aI z (3 : Int32).toNatClampNeg) (fm_A g22 rR (by decide) rfl)).trans m12))
    have hF := FM.tr hF g37 rfl
    refine lv_iconst (v := 1) hx hb dX12_holds_34 (by decide) ?_
    refine q_iadd (Y := 1) hx hb dX12_holds_35 rfl rfl (by omega) (fun x41 h42 => ?_)
    refine gl_822 E hW rR ⟨by omega, by omega⟩ dX12_holds_36 (fun y43 m44 b45 => ?_)
    have b46 := tx_n (t := u1) (by rw [fm_A hF rR (by decide) rfl]; exact hTX) (by omega) (by have z : aI (f35 pR) 3 = y11 := m40; rw [z]; omega) m44 (by omega)
    refine q_i2l hx hb dX12_holds_37 rfl (fun x47 h48 => ?_)
    refine lv_lconst (v := 1) hx hb dX12_holds_38 (by decide) ?_
    refine q_lsub (Y := 1) hx hb dX12_holds_39 rfl rfl (by omega) (fun x49 h50 => ?_)
    refine t_callS (As := [.long x28, .long 0, .long x49]) (rest := []) E hW (c_X12_in l G cI cJ cZ cD cR cT kp L f35 hW.2.2.2 _ x28 0 x49) wk_X12_in tw_1554 rfl ⟨Nat.le_of_ble_eq_true rfl, Nat.le_of_ble_eq_true rfl⟩ ⟨rfl, rfl⟩ hl.1 rfl (Nat.le_of_ble_eq_true rfl) dX12_holds_40 ⟨Nat.le_of_ble_eq_true rfl, Nat.le_of_ble_eq_true rfl⟩ (fun v51 f52 H locs q53 hW => ?_)
    obtain ⟨⟨x55, rfl, p56⟩, g54⟩ := q53
    have p56 : (x55.toInt = 1 ∧ 0 ≤ x28.toInt ∧ x28.toInt ≤ x49.toInt) ∨ (x55.toInt = 0 ∧ (x28.toInt < 0 ∨ x49.toInt < x28.toInt)) := p56
    have hF := FM.tr hF g54 rfl
    refine q_if_eq (tgt := 74) hx hb dX12_holds_43 (by decide) rfl (fun c57 => ?_) (fun c57 => ?_)
    · have q58 : (x28.toInt < 0 ∨ x49.toInt < x28.toInt) := by omega
      clear p56
      refine lv_iconst (v := (-1)) hx hb dX12_holds_74 (by decide) ?_
      exact e_I E hW rfl ⟨⟨_, rfl, (by have hk : ((-1) : Int32).toInt = -1 := rfl; first | decide | omega)⟩, hF⟩ dX12_holds_75
    · have q59 : 0 ≤ x28.toInt ∧ x28.toInt ≤ x49.toInt := by omega
      clear p56
      refine lv_iload_n hx hb dX12_holds_46 rfl (lv_at hl 3 rfl) ?_
      refine lv_iconst (v := (-1)) hx hb dX12_holds_47 (by decide) ?_
      refine q_icmp_eq (Y := -1) (tgt := 59) hx hb dX12_holds_48 (by decide) rfl rfl (fun c60 => ?_) (fun c60 => ?_)
      · refine lv_iload hx hb dX12_holds_59 (lv_at hl 4 rfl) ?_
        refine lv_iconst (v := (-1)) hx hb dX12_holds_61 (by decide) ?_
        refine q_icmp_eq (Y := -1) (tgt := 76) hx hb dX12_holds_62 (by decide) rfl rfl (fun c61 => ?_) (fun c61 => ?_)
        · refine lv_aload_n hx hb dX12_holds_76 rfl (lv_at hl 0 rfl) ?_
          refine t_callV (As := []) (rest := []) E hW (c_X12_forceNow l G cI cJ cZ cD cR cT kp L f52 hW.2.2.2 _ h0 rh0 (by rw [((fm_R g54 rh0 rfl).trans ((fm_R g37 rh0 rfl).trans m32))]; exact (by rw [fm_A hF rR (by decide) rfl]; exact hTX))) rh0 (by decide) rfl wk_X12_forceNow tw_1647 rfl ⟨Nat.le_of_ble_eq_true rfl, Nat.le_of_ble_eq_true rfl⟩ ⟨rfl, rfl⟩ hl.1 rfl (Nat.le_of_ble_eq_true rfl) dX12_holds_77 ⟨Nat.le_of_ble_eq_true rfl, Nat.le_of_ble_eq_true rfl⟩ (fun v62 f63 H locs q64 hW => ?_)
          obtain ⟨rfl, g65⟩ := q64
          have m66 : aI (f63 pR) (3 : Int32).toNatClampNeg = y11 := ((congrArg (fun z => aI z (3 : Int32).toNatClampNeg) (fm_A g65 rR (by decide) rfl)).trans ((congrArg (fun z => aI z (3 : Int32).toNatClampNeg) (fm_A g54 rR (by decide) rfl)).trans m40))
          have m67 : aI (f63 pR) (x41 : Int32).toNatClampNeg = y43 := ((congrArg (fun z => aI z (x41 : Int32).toNatClampNeg) (fm_A g65 rR (by decide) rfl)).trans ((congrArg (fun z => aI z (x41 : Int32).toNatClampNeg) (fm_A g54 rR (by decide) rfl)).trans m44))
          have hF := FM.tr hF g65 rfl
          refine lv_aload_n hx hb dX12_holds_80 rfl (lv_at hl 0 rfl) ?_
          refine lv_iload_n hx hb dX12_holds_81 rfl (lv_at hl 3 rfl) ?_
          refine lv_iload hx hb dX12_holds_82 (lv_at hl 4 rfl) ?_
          refine t_callV (As := [.int u3, .int u4]) (rest := []) E hW (c_X12_setFor l G cI cJ cZ cD cR cT kp L f63 hW.2.2.2 _ h0 u3 u4 rh0 (by omega) (by omega)) rh0 (by decide) rfl wk_X12_setFor tw_1673 rfl ⟨Nat.le_of_ble_eq_true rfl, Nat.le_of_ble_eq_true rfl⟩ ⟨rfl, rfl⟩ hl.1 rfl (Nat.le_of_ble_eq_true rfl) dX12_holds_84 ⟨Nat.le_of_ble_eq_true rfl, Nat.le_of_ble_eq_true rfl⟩ (fun v68 f69 H locs q70 hW => ?_)
          obtain ⟨rfl, g71⟩ := q70
          have hF := FM.tr hF g71 rfl
          refine lv_aload_n hx hb dX12_holds_87 rfl (lv_at hl 0 rfl) ?_
          refine fg_RX12_8 E hW rh0 dX12_holds_88 (fun a72 m73 r74 => ?_)
          obtain rfl : pR = a72 := (((fm_R g71 rh0 rfl).trans ((fm_R g65 rh0 rfl).trans ((fm_R g54 rh0 rfl).trans ((fm_R g37 rh0 rfl).trans m32))))).symm.trans m73
          refine lv_iload_n hx hb dX12_holds_91 rfl (lv_at hl 1 rfl) ?_
          refine lv_iload_n hx hb dX12_holds_92 rfl (lv_at hl 2 rfl) ?_
          refine t_callS (As := [.int u1, .int u2]) (rest := [.ref pR]) E hW (c_X12_clauseAt l G cI cJ cZ cD cR cT kp L f69 hW.2.2.2 _ u1 u2 (by omega) (by omega)) wk_X12_clauseAt tw_1658 rfl ⟨Nat.le_of_ble_eq_true rfl, Nat.le_of_ble_eq_true rfl⟩ ⟨rfl, rfl⟩ hl.1 rfl (Nat.le_of_ble_eq_true rfl) dX12_holds_93 ⟨Nat.le_of_ble_eq_true rfl, Nat.le_of_ble_eq_true rfl⟩ (fun v75 f76 H locs q77 hW => ?_)
          obtain ⟨⟨x79, rfl, p80⟩, g78⟩ := q77
          have m81 : aI (f76 pR) (3 : Int32).toNatClampNeg = y11 := ((congrArg (fun z => aI z (3 : Int32).toNatClampNeg) (fm_A g78 rR (by decide) rfl)).trans ((congrArg (fun z => aI z (3 : Int32).toNatClampNeg) (fm_A g71 rR (by decide) rfl)).trans m66))
          have m82 : aI (f76 pR) (x41 : Int32).toNatClampNeg = y43 := ((congrArg (fun z => aI z (x41 : Int32).toNatClampNeg) (fm_A g78 rR (by decide) rfl)).trans ((congrArg (fun z => aI z (x41 : Int32).toNatClampNeg) (fm_A g71 rR (by decide) rfl)).trans m67))
          have hF := FM.tr hF g78 rfl
          refine gl_822 E hW rR ⟨by omega, by omega⟩ dX12_holds_96 (fun y83 m84 b85 => ?_)
          refine lv_iconst (v := 2) hx hb dX12_holds_97 (by decide) ?_
          have J107 : ∀ (f101 : Nat → va_E) (y105 : Int32) (m102 : oI (f101 h0) 0 = 0) (m103 : oR (f101 h0) 2 = pR) (m104 : aI (f101 pR) (3 : Int32).toNatClampNeg = y11) (b106 : (0 : Int) ≤ y105.toInt ∧ y105.toInt ≤ 1) (H : Heap) (locs : List Loc) (ls : Array Slot), WS G cI cJ cZ cD cR cT A kp L f101 s H locs → FM kp L ms_X12_holds f0 f101 → lv_has ls 5 [(0, .ref h0), (1, .int u1), (2, .int u2), (3, .int u3), (4, .int u4)] → W p l e ({ frames := 5, cells := 0, slots := 0, locals := 125 }) s m ([.ref h0, .int u1, .int u2, .int u3, .int u4] : List Value).toArray below meth c H locs 0 0 (MQ below (QT (po_X12_holds kp L f0 h0 u1 u2 u3 u4) G cI cJ cZ cD cR cT A kp L) ([.ref h0, .int u1, .int u2, .int u3, .int u4] : List Value).toArray s 0 0 A) (F0 m 124 ls [.int y105]) := by
            intro f101 y105 m102 m103 m104 b106 H locs ls hW hF hl
            clear c25 b46 h48 h50 c57
            exact e_I E hW rfl ⟨⟨_, rfl, (by first | omega | trivial)⟩, hF⟩ dX12_holds_124
          refine q_icmp_lt (Y := 2) (tgt := 123) hx hb dX12_holds_98 (by decide) rfl rfl (fun c108 => ?_) (fun c108 => ?_)
          · refine lv_iconst (v := 0) hx hb dX12_holds_123 (by decide) ?_
            exact J107 f76 0 ((fm_I g78 rh0 rfl).trans ((fm_I g71 rh0 rfl).trans ((fm_I g65 rh0 rfl).trans ((fm_I g54 rh0 rfl).trans ((fm_I g37 rh0 rfl).trans ((fm_I g22 rh0 rfl).trans e2)))))) ((fm_R g78 rh0 rfl).trans m73) m81 (by decide) _ _ _ hW hF (lv_sub hl [0, 1, 2, 3, 4] rfl)
          · refine lv_aload_n hx hb dX12_holds_101 rfl (lv_at hl 0 rfl) ?_
            refine lv_iload_n hx hb dX12_holds_102 rfl (lv_at hl 1 rfl) ?_
            refine lv_iload_n hx hb dX12_holds_103 rfl (lv_at hl 2 rfl) ?_
            refine t_callV (As := [.int u1, .int u2]) (rest := []) E hW (c_X12_isIn l G cI cJ cZ cD cR cT kp L f76 hW.2.2.2 _ h0 u1 u2 rh0 (by omega) (by omega)) rh0 (by decide) rfl wk_X12_isIn tw_1685 rfl ⟨Nat.le_of_ble_eq_true rfl, Nat.le_of_ble_eq_true rfl⟩ ⟨rfl, rfl⟩ hl.1 rfl (Nat.le_of_ble_eq_true rfl) dX12_holds_104 ⟨Nat.le_of_ble_eq_true rfl, Nat.le_of_ble_eq_true rfl⟩ (fun v109 f110 H locs q111 hW => ?_)
            obtain ⟨⟨x113, rfl, p114⟩, g112⟩ := q111
            have m115 : oI (f110 h0) 0 = 0 := ((fm_I g112 rh0 rfl).trans ((fm_I g78 rh0 rfl).trans ((fm_I g71 rh0 rfl).trans ((fm_I g65 rh0 rfl).trans ((fm_I g54 rh0 rfl).trans ((fm_I g37 rh0 rfl).trans ((fm_I g22 rh0 rfl).trans e2)))))))
            have hF := FM.tr hF g112 rfl
            refine q_if_eq (tgt := 123) hx hb dX12_holds_107 (by decide) rfl (fun c116 => ?_) (fun c116 => ?_)
            · refine lv_iconst (v := 0) hx hb dX12_holds_123 (by decide) ?_
              exact J107 f110 0 m115 ((fm_R g112 rh0 rfl).trans ((fm_R g78 rh0 rfl).trans m73)) ((congrArg (fun z => aI z (3 : Int32).toNatClampNeg) (fm_A g112 rR (by decide) rfl)).trans m81) (by decide) _ _ _ hW hF (lv_sub hl [0, 1, 2, 3, 4] rfl)
            · refine lv_aload_n hx hb dX12_holds_110 rfl (lv_at hl 0 rfl) ?_
              refine lv_iload_n hx hb dX12_holds_111 rfl (lv_at hl 1 rfl) ?_
              refine lv_iload_n hx hb dX12_holds_112 rfl (lv_at hl 2 rfl) ?_
              refine t_callV (As := [.int u1, .int u2]) (rest := []) E hW (c_X12_isSo l G cI cJ cZ cD cR cT kp L f110 hW.2.2.2 _ h0 u1 u2 rh0 (by omega) (by omega) (by rw [((fm_R g112 rh0 rfl).trans ((fm_R g78 rh0 rfl).trans m73))]; exact ⟨by have z : aI (f110 pR) 3 = y11 := ((congrArg (fun z => aI z (3 : Int32).toNatClampNeg) (fm_A g112 rR (by decide) rfl)).trans m81); rw [z]; omega, by rw [at_i ((congrArg (fun z => aI z (x41 : Int32).toNatClampNeg) (fm_A g112 rR (by decide) rfl)).trans m82) (by omega) (by omega)]; omega⟩) (by rw [((fm_R g112 rh0 rfl).trans ((fm_R g78 rh0 rfl).trans m73))]; exact (by rw [fm_A hF rR (by decide) rfl]; exact hTX))) rh0 (by decide) rfl wk_X12_isSo tw_1689 rfl ⟨Nat.le_of_ble_eq_true rfl, Nat.le_of_ble_eq_true rfl⟩ ⟨rfl, rfl⟩ hl.1 rfl (Nat.le_of_ble_eq_true rfl) dX12_holds_113 ⟨Nat.le_of_ble_eq_true rfl, Nat.le_of_ble_eq_true rfl⟩ (fun v117 f118 H locs q119 hW => ?_)
              obtain ⟨⟨x121, rfl, p122⟩, g120⟩ := q119
              have m123 : aI (f118 pR) (3 : Int32).toNatClampNeg = y11 := ((congrArg (fun z => aI z (3 : Int32).toNatClampNeg) (fm_A g120 rR (by decide) rfl)).trans ((congrArg (fun z => aI z (3 : Int32).toNatClampNeg) (fm_A g112 rR (by decide) rfl)).trans m81))
              have m124 : aI (f118 pR) (x41 : Int32).toNatClampNeg = y43 := ((congrArg (fun z => aI z (x41 : Int32).toNatClampNeg) (fm_A g120 rR (by decide) rfl)).trans ((congrArg (fun z => aI z (x41 : Int32).toNatClampNeg) (fm_A g112 rR (by decide) rfl)).trans m82))
              have m125 : aI (f118 pR) (x79 : Int32).toNatClampNeg = y83 := ((congrArg (fun z => aI z (x79 : Int32).toNatClampNeg) (fm_A g120 rR (by decide) rfl)).trans ((congrArg (fun z => aI z (x79 : Int32).toNatClampNeg) (fm_A g112 rR (by decide) rfl)).trans m84))
              have hF := FM.tr hF g120 rfl
              refine q_if_eq (tgt := 123) hx hb dX12_holds_116 (by decide) rfl (fun c126 => ?_) (fun c126 => ?_)
              · refine lv_iconst (v := 0) hx hb dX12_holds_123 (by decide) ?_
                exact J107 f118 0 ((fm_I g120 rh0 rfl).trans m115) ((fm_R g120 rh0 rfl).trans ((fm_R g112 rh0 rfl).trans ((fm_R g78 rh0 rfl).trans m73))) m123 (by decide) _ _ _ hW hF (lv_sub hl [0, 1, 2, 3, 4] rfl)
              · refine lv_iconst (v := 1) hx hb dX12_holds_119 (by decide) ?_
                refine lv_goto (tgt := 124) hx hb dX12_holds_120 (by decide) ?_
                exact J107 f118 1 ((fm_I g120 rh0 rfl).trans m115) ((fm_R g120 rh0 rfl).trans ((fm_R g112 rh0 rfl).trans ((fm_R g78 rh0 rfl).trans m73))) m123 (by decide) _ _ _ hW hF (lv_sub hl [0, 1, 2, 3, 4] rfl)
        · refine lv_aload_n hx hb dX12_holds_65 rfl (lv_at hl 0 rfl) ?_
          refine lv_iload hx hb dX12_holds_66 (lv_at hl 4 rfl) ?_
          refine t_callV (As := [.int u4]) (rest := []) E hW (c_X12_isField l G cI cJ cZ cD cR cT kp L f52 hW.2.2.2 _ h0 u4 rh0) rh0 (by decide) rfl wk_X12_isField tw_1639 rfl ⟨Nat.le_of_ble_eq_true rfl, Nat.le_of_ble_eq_true rfl⟩ ⟨rfl, rfl⟩ hl.1 rfl (Nat.le_of_ble_eq_true rfl) dX12_holds_68 ⟨Nat.le_of_ble_eq_true rfl, Nat.le_of_ble_eq_true rfl⟩ (fun v127 f128 H locs q129 hW => ?_)
          obtain ⟨⟨x131, rfl, p132⟩, g130⟩ := q129
          have m133 : aI (f128 pR) (3 : Int32).toNatClampNeg = y11 := ((congrArg (fun z => aI z (3 : Int32).toNatClampNeg) (fm_A g130 rR (by decide) rfl)).trans ((congrArg (fun z => aI z (3 : Int32).toNatClampNeg) (fm_A g54 rR (by decide) rfl)).trans m40))
          have m134 : aI (f128 pR) (x41 : Int32).toNatClampNeg = y43 := ((congrArg (fun z => aI z (x41 : Int32).toNatClampNeg) (fm_A g130 rR (by decide) rfl)).trans ((congrArg (fun z => aI z (x41 : Int32).toNatClampNeg) (fm_A g54 rR (by decide) rfl)).trans m44))
          have hF := FM.tr hF g130 rfl
          refine q_if_ne (tgt := 76) hx hb dX12_holds_71 (by decide) rfl (fun c135 => ?_) (fun c135 => ?_)
          · have q136 : 0 ≤ u4.toInt ∧ u4.toInt ≤ 39 := by omega
            clear p132
            refine lv_aload_n hx hb dX12_holds_76 rfl (lv_at hl 0 rfl) ?_
            refine t_callV (As := []) (rest := []) E hW (c_X12_forceNow l G cI cJ cZ cD cR cT kp L f128 hW.2.2.2 _ h0 rh0 (by rw [((fm_R g130 rh0 rfl).trans ((fm_R g54 rh0 rfl).trans ((fm_R g37 rh0 rfl).trans m32)))]; exact (by rw [fm_A hF rR (by decide) rfl]; exact hTX))) rh0 (by decide) rfl wk_X12_forceNow tw_1647 rfl ⟨Nat.le_of_ble_eq_true rfl, Nat.le_of_ble_eq_true rfl⟩ ⟨rfl, rfl⟩ hl.1 rfl (Nat.le_of_ble_eq_true rfl) dX12_holds_77 ⟨Nat.le_of_ble_eq_true rfl, Nat.le_of_ble_eq_true rfl⟩ (fun v137 f138 H locs q139 hW => ?_)
            obtain ⟨rfl, g140⟩ := q139
            have hF := FM.tr hF g140 rfl
            refine lv_aload_n hx hb dX12_holds_80 rfl (lv_at hl 0 rfl) ?_
            refine lv_iload_n hx hb dX12_holds_81 rfl (lv_at hl 3 rfl) ?_
            refine lv_iload hx hb dX12_holds_82 (lv_at hl 4 rfl) ?_
            refine t_callV (As := [.int u3, .int u4]) (rest := []) E hW (c_X12_setFor l G cI cJ cZ cD cR cT kp L f138 hW.2.2.2 _ h0 u3 u4 rh0 (by omega) (by omega)) rh0 (by decide) rfl wk_X12_setFor tw_1673 rfl ⟨Nat.le_of_ble_eq_true rfl, Nat.le_of_ble_eq_true rfl⟩ ⟨rfl, rfl⟩ hl.1 rfl (Nat.le_of_ble_eq_true rfl) dX12_holds_84 ⟨Nat.le_of_ble_eq_true rfl, Nat.le_of_ble_eq_true rfl⟩ (fun v141 f142 H locs q143 hW => ?_)
            obtain ⟨rfl, g144⟩ := q143
            have m145 : aI (f142 pR) (3 : Int32).toNatClampNeg = y11 := ((congrArg (fun z => aI z (3 : Int32).toNatClampNeg) (fm_A g144 rR (by decide) rfl)).trans ((congrArg (fun z => aI z (3 : Int32).toNatClampNeg) (fm_A g140 rR (by decide) rfl)).trans m133))
            have m146 : aI (f142 pR) (x41 : Int32).toNatClampNeg = y43 := ((congrArg (fun z => aI z (x41 : Int32).toNatClampNeg) (fm_A g144 rR (by decide) rfl)).trans ((congrArg (fun z => aI z (x41 : Int32).toNatClampNeg) (fm_A g140 rR (by decide) rfl)).trans m134))
            have hF := FM.tr hF g144 rfl
            refine lv_aload_n hx hb dX12_holds_87 rfl (lv_at hl 0 rfl) ?_
            refine fg_RX12_8 E hW rh0 dX12_holds_88 (fun a147 m148 r149 => ?_)
            obtain rfl : pR = a147 := (((fm_R g144 rh0 rfl).trans ((fm_R g140 rh0 rfl).trans ((fm_R g130 rh0 rfl).trans ((fm_R g54 rh0 rfl).trans ((fm_R g37 rh0 rfl).trans m32)))))).symm.trans m148
            refine lv_iload_n hx hb dX12_holds_91 rfl (lv_at hl 1 rfl) ?_
            refine lv_iload_n hx hb dX12_holds_92 rfl (lv_at hl 2 rfl) ?_
            refine t_callS (As := [.int u1, .int u2]) (rest := [.ref pR]) E hW (c_X12_clauseAt l G cI cJ cZ cD cR cT kp L f142 hW.2.2.2 _ u1 u2 (by omega) (by omega)) wk_X12_clauseAt tw_1658 rfl ⟨Nat.le_of_ble_eq_true rfl, Nat.le_of_ble_eq_true rfl⟩ ⟨rfl, rfl⟩ hl.1 rfl (Nat.le_of_ble_eq_true rfl) dX12_holds_93 ⟨Nat.le_of_ble_eq_true rfl, Nat.le_of_ble_eq_true rfl⟩ (fun v150 f151 H locs q152 hW => ?_)
            obtain ⟨⟨x154, rfl, p155⟩, g153⟩ := q152
            have m156 : oI (f151 h0) 0 = 0 := ((fm_I g153 rh0 rfl).trans ((fm_I g144 rh0 rfl).trans ((fm_I g140 rh0 rfl).trans ((fm_I g130 rh0 rfl).trans ((fm_I g54 rh0 rfl).trans ((fm_I g37 rh0 rfl).trans ((fm_I g22 rh0 rfl).trans e2)))))))
            have hF := FM.tr hF g153 rfl
            refine gl_822 E hW rR ⟨by omega, by omega⟩ dX12_holds_96 (fun y157 m158 b159 => ?_)
            refine lv_iconst (v := 2) hx hb dX12_holds_97 (by decide) ?_
            have J181 : ∀ (f175 : Nat → va_E) (y179 : Int32) (m176 : oI (f175 h0) 0 = 0) (m177 : oR (f175 h0) 2 = pR) (m178 : aI (f175 pR) (3 : Int32).toNatClampNeg = y11) (b180 : (0 : Int) ≤ y179.toInt ∧ y179.toInt ≤ 1) (H : Heap) (locs : List Loc) (ls : Array Slot), WS G cI cJ cZ cD cR cT A kp L f175 s H locs → FM kp L ms_X12_holds f0 f175 → lv_has ls 5 [(0, .ref h0), (1, .int u1), (2, .int u2), (3, .int u3), (4, .int u4)] → W p l e ({ frames := 5, cells := 0, slots := 0, locals := 125 }) s m ([.ref h0, .int u1, .int u2, .int u3, .int u4] : List Value).toArray below meth c H locs 0 0 (MQ below (QT (po_X12_holds kp L f0 h0 u1 u2 u3 u4) G cI cJ cZ cD cR cT A kp L) ([.ref h0, .int u1, .int u2, .int u3, .int u4] : List Value).toArray s 0 0 A) (F0 m 124 ls [.int y179]) := by
              intro f175 y179 m176 m177 m178 b180 H locs ls hW hF hl
              clear c25 b46 h48 h50 c57 c135
              exact e_I E hW rfl ⟨⟨_, rfl, (by first | omega | trivial)⟩, hF⟩ dX12_holds_124
            refine q_icmp_lt (Y := 2) (tgt := 123) hx hb dX12_holds_98 (by decide) rfl rfl (fun c182 => ?_) (fun c182 => ?_)
            · refine lv_iconst (v := 0) hx hb dX12_holds_123 (by decide) ?_
              exact J181 f151 0 m156 ((fm_R g153 rh0 rfl).trans m148) ((congrArg (fun z => aI z (3 : Int32).toNatClampNeg) (fm_A g153 rR (by decide) rfl)).trans m145) (by decide) _ _ _ hW hF (lv_sub hl [0, 1, 2, 3, 4] rfl)
            · refine lv_aload_n hx hb dX12_holds_101 rfl (lv_at hl 0 rfl) ?_
              refine lv_iload_n hx hb dX12_holds_102 rfl (lv_at hl 1 rfl) ?_
              refine lv_iload_n hx hb dX12_holds_103 rfl (lv_at hl 2 rfl) ?_
              refine t_callV (As := [.int u1, .int u2]) (rest := []) E hW (c_X12_isIn l G cI cJ cZ cD cR cT kp L f151 hW.2.2.2 _ h0 u1 u2 rh0 (by omega) (by omega)) rh0 (by decide) rfl wk_X12_isIn tw_1685 rfl ⟨Nat.le_of_ble_eq_true rfl, Nat.le_of_ble_eq_true rfl⟩ ⟨rfl, rfl⟩ hl.1 rfl (Nat.le_of_ble_eq_true rfl) dX12_holds_104 ⟨Nat.le_of_ble_eq_true rfl, Nat.le_of_ble_eq_true rfl⟩ (fun v183 f184 H locs q185 hW => ?_)
              obtain ⟨⟨x187, rfl, p188⟩, g186⟩ := q185
              have m189 : aI (f184 pR) (3 : Int32).toNatClampNeg = y11 := ((congrArg (fun z => aI z (3 : Int32).toNatClampNeg) (fm_A g186 rR (by decide) rfl)).trans ((congrArg (fun z => aI z (3 : Int32).toNatClampNeg) (fm_A g153 rR (by decide) rfl)).trans m145))
              have m190 : aI (f184 pR) (x41 : Int32).toNatClampNeg = y43 := ((congrArg (fun z => aI z (x41 : Int32).toNatClampNeg) (fm_A g186 rR (by decide) rfl)).trans ((congrArg (fun z => aI z (x41 : Int32).toNatClampNeg) (fm_A g153 rR (by decide) rfl)).trans m146))
              have hF := FM.tr hF g186 rfl
              refine q_if_eq (tgt := 123) hx hb dX12_holds_107 (by decide) rfl (fun c191 => ?_) (fun c191 => ?_)
              · refine lv_iconst (v := 0) hx hb dX12_holds_123 (by decide) ?_
                exact J181 f184 0 ((fm_I g186 rh0 rfl).trans m156) ((fm_R g186 rh0 rfl).trans ((fm_R g153 rh0 rfl).trans m148)) m189 (by decide) _ _ _ hW hF (lv_sub hl [0, 1, 2, 3, 4] rfl)
              · refine lv_aload_n hx hb dX12_holds_110 rfl (lv_at hl 0 rfl) ?_
                refine lv_iload_n hx hb dX12_holds_111 rfl (lv_at hl 1 rfl) ?_
                refine lv_iload_n hx hb dX12_holds_112 rfl (lv_at hl 2 rfl) ?_
                refine t_callV (As := [.int u1, .int u2]) (rest := []) E hW (c_X12_isSo l G cI cJ cZ cD cR cT kp L f184 hW.2.2.2 _ h0 u1 u2 rh0 (by omega) (by omega) (by rw [((fm_R g186 rh0 rfl).trans ((fm_R g153 rh0 rfl).trans m148))]; exact ⟨by have z : aI (f184 pR) 3 = y11 := m189; rw [z]; omega, by rw [at_i m190 (by omega) (by omega)]; omega⟩) (by rw [((fm_R g186 rh0 rfl).trans ((fm_R g153 rh0 rfl).trans m148))]; exact (by rw [fm_A hF rR (by decide) rfl]; exact hTX))) rh0 (by decide) rfl wk_X12_isSo tw_1689 rfl ⟨Nat.le_of_ble_eq_true rfl, Nat.le_of_ble_eq_true rfl⟩ ⟨rfl, rfl⟩ hl.1 rfl (Nat.le_of_ble_eq_true rfl) dX12_holds_113 ⟨Nat.le_of_ble_eq_true rfl, Nat.le_of_ble_eq_true rfl⟩ (fun v192 f193 H locs q194 hW => ?_)
                obtain ⟨⟨x196, rfl, p197⟩, g195⟩ := q194
                have m198 : aI (f193 pR) (x154 : Int32).toNatClampNeg = y157 := ((congrArg (fun z => aI z (x154 : Int32).toNatClampNeg) (fm_A g195 rR (by decide) rfl)).trans ((congrArg (fun z => aI z (x154 : Int32).toNatClampNeg) (fm_A g186 rR (by decide) rfl)).trans m158))
                have hF := FM.tr hF g195 rfl
                refine q_if_eq (tgt := 123) hx hb dX12_holds_116 (by decide) rfl (fun c199 => ?_) (fun c199 => ?_)
                · refine lv_iconst (v := 0) hx hb dX12_holds_123 (by decide) ?_
                  exact J181 f193 0 ((fm_I g195 rh0 rfl).trans ((fm_I g186 rh0 rfl).trans m156)) ((fm_R g195 rh0 rfl).trans ((fm_R g186 rh0 rfl).trans ((fm_R g153 rh0 rfl).trans m148))) ((congrArg (fun z => aI z (3 : Int32).toNatClampNeg) (fm_A g195 rR (by decide) rfl)).trans m189) (by decide) _ _ _ hW hF (lv_sub hl [0, 1, 2, 3, 4] rfl)
                · refine lv_iconst (v := 1) hx hb dX12_holds_119 (by decide) ?_
                  refine lv_goto (tgt := 124) hx hb dX12_holds_120 (by decide) ?_
                  exact J181 f193 1 ((fm_I g195 rh0 rfl).trans ((fm_I g186 rh0 rfl).trans m156)) ((fm_R g195 rh0 rfl).trans ((fm_R g186 rh0 rfl).trans ((fm_R g153 rh0 rfl).trans m148))) ((congrArg (fun z => aI z (3 : Int32).toNatClampNeg) (fm_A g195 rR (by decide) rfl)).trans m189) (by decide) _ _ _ hW hF (lv_sub hl [0, 1, 2, 3, 4] rfl)
          · clear p132
            refine lv_iconst (v := (-1)) hx hb dX12_holds_74 (by decide) ?_
            exact e_I E hW rfl ⟨⟨_, rfl, (by have hk : ((-1) : Int32).toInt = -1 := rfl; first | decide | omega)⟩, hF⟩ dX12_holds_75
      · refine lv_aload_n hx hb dX12_holds_51 rfl (lv_at hl 0 rfl) ?_
        refine lv_iload_n hx hb dX12_holds_52 rfl (lv_at hl 3 rfl) ?_
        refine t_callV (As := [.int u3]) (rest := []) E hW (c_X12_isPerson l G cI cJ cZ cD cR cT kp L f52 hW.2.2.2 _ h0 u3 rh0) rh0 (by decide) rfl wk_X12_isPerson tw_1583 rfl ⟨Nat.le_of_ble_eq_true rfl, Nat.le_of_ble_eq_true rfl⟩ ⟨rfl, rfl⟩ hl.1 rfl (Nat.le_of_ble_eq_true rfl) dX12_holds_53 ⟨Nat.le_of_ble_eq_true rfl, Nat.le_of_ble_eq_true rfl⟩ (fun v200 f201 H locs q202 hW => ?_)
        obtain ⟨⟨x204, rfl, p205⟩, g203⟩ := q202
        have m206 : aI (f201 pR) (3 : Int32).toNatClampNeg = y11 := ((congrArg (fun z => aI z (3 : Int32).toNatClampNeg) (fm_A g203 rR (by decide) rfl)).trans ((congrArg (fun z => aI z (3 : Int32).toNatClampNeg) (fm_A g54 rR (by decide) rfl)).trans m40))
        have m207 : aI (f201 pR) (x41 : Int32).toNatClampNeg = y43 := ((congrArg (fun z => aI z (x41 : Int32).toNatClampNeg) (fm_A g203 rR (by decide) rfl)).trans ((congrArg (fun z => aI z (x41 : Int32).toNatClampNeg) (fm_A g54 rR (by decide) rfl)).trans m44))
        have hF := FM.tr hF g203 rfl
        refine q_if_eq (tgt := 74) hx hb dX12_holds_56 (by decide) rfl (fun c208 => ?_) (fun c208 => ?_)
        · clear p205
          refine lv_iconst (v := (-1)) hx hb dX12_holds_74 (by decide) ?_
          exact e_I E hW rfl ⟨⟨_, rfl, (by have hk : ((-1) : Int32).toInt = -1 := rfl; first | decide | omega)⟩, hF⟩ dX12_holds_75
        · have q209 : 0 ≤ u3.toInt ∧ u3.toInt ≤ 39 := by omega
          clear p205
          refine lv_iload hx hb dX12_holds_59 (lv_at hl 4 rfl) ?_
          refine lv_iconst (v := (-1)) hx hb dX12_holds_61 (by decide) ?_
          refine q_icmp_eq (Y := -1) (tgt := 76) hx hb dX12_holds_62 (by decide) rfl rfl (fun c210 => ?_) (fun c210 => ?_)
          · refine lv_aload_n hx hb dX12_holds_76 rfl (lv_at hl 0 rfl) ?_
            refine t_callV (As := []) (rest := []) E hW (c_X12_forceNow l G cI cJ cZ cD cR cT kp L f201 hW.2.2.2 _ h0 rh0 (by rw [((fm_R g203 rh0 rfl).trans ((fm_R g54 rh0 rfl).trans ((fm_R g37 rh0 rfl).trans m32)))]; exact (by rw [fm_A hF rR (by decide) rfl]; exact hTX))) rh0 (by decide) rfl wk_X12_forceNow tw_1647 rfl ⟨Nat.le_of_ble_eq_true rfl, Nat.le_of_ble_eq_true rfl⟩ ⟨rfl, rfl⟩ hl.1 rfl (Nat.le_of_ble_eq_true rfl) dX12_holds_77 ⟨Nat.le_of_ble_eq_true rfl, Nat.le_of_ble_eq_true rfl⟩ (fun v211 f212 H locs q213 hW => ?_)
            obtain ⟨rfl, g214⟩ := q213
            have hF := FM.tr hF g214 rfl
            refine lv_aload_n hx hb dX12_holds_80 rfl (lv_at hl 0 rfl) ?_
            refine lv_iload_n hx hb dX12_holds_81 rfl (lv_at hl 3 rfl) ?_
            refine lv_iload hx hb dX12_holds_82 (lv_at hl 4 rfl) ?_
            refine t_callV (As := [.int u3, .int u4]) (rest := []) E hW (c_X12_setFor l G cI cJ cZ cD cR cT kp L f212 hW.2.2.2 _ h0 u3 u4 rh0 (by omega) (by omega)) rh0 (by decide) rfl wk_X12_setFor tw_1673 rfl ⟨Nat.le_of_ble_eq_true rfl, Nat.le_of_ble_eq_true rfl⟩ ⟨rfl, rfl⟩ hl.1 rfl (Nat.le_of_ble_eq_true rfl) dX12_holds_84 ⟨Nat.le_of_ble_eq_true rfl, Nat.le_of_ble_eq_true rfl⟩ (fun v215 f216 H locs q217 hW => ?_)
            obtain ⟨rfl, g218⟩ := q217
            have m219 : aI (f216 pR) (3 : Int32).toNatClampNeg = y11 := ((congrArg (fun z => aI z (3 : Int32).toNatClampNeg) (fm_A g218 rR (by decide) rfl)).trans ((congrArg (fun z => aI z (3 : Int32).toNatClampNeg) (fm_A g214 rR (by decide) rfl)).trans m206))
            have m220 : aI (f216 pR) (x41 : Int32).toNatClampNeg = y43 := ((congrArg (fun z => aI z (x41 : Int32).toNatClampNeg) (fm_A g218 rR (by decide) rfl)).trans ((congrArg (fun z => aI z (x41 : Int32).toNatClampNeg) (fm_A g214 rR (by decide) rfl)).trans m207))
            have hF := FM.tr hF g218 rfl
            refine lv_aload_n hx hb dX12_holds_87 rfl (lv_at hl 0 rfl) ?_
            refine fg_RX12_8 E hW rh0 dX12_holds_88 (fun a221 m222 r223 => ?_)
            obtain rfl : pR = a221 := (((fm_R g218 rh0 rfl).trans ((fm_R g214 rh0 rfl).trans ((fm_R g203 rh0 rfl).trans ((fm_R g54 rh0 rfl).trans ((fm_R g37 rh0 rfl).trans m32)))))).symm.trans m222
            refine lv_iload_n hx hb dX12_holds_91 rfl (lv_at hl 1 rfl) ?_
            refine lv_iload_n hx hb dX12_holds_92 rfl (lv_at hl 2 rfl) ?_
            refine t_callS (As := [.int u1, .int u2]) (rest := [.ref pR]) E hW (c_X12_clauseAt l G cI cJ cZ cD cR cT kp L f216 hW.2.2.2 _ u1 u2 (by omega) (by omega)) wk_X12_clauseAt tw_1658 rfl ⟨Nat.le_of_ble_eq_true rfl, Nat.le_of_ble_eq_true rfl⟩ ⟨rfl, rfl⟩ hl.1 rfl (Nat.le_of_ble_eq_true rfl) dX12_holds_93 ⟨Nat.le_of_ble_eq_true rfl, Nat.le_of_ble_eq_true rfl⟩ (fun v224 f225 H locs q226 hW => ?_)
            obtain ⟨⟨x228, rfl, p229⟩, g227⟩ := q226
            have m230 : oI (f225 h0) 0 = 0 := ((fm_I g227 rh0 rfl).trans ((fm_I g218 rh0 rfl).trans ((fm_I g214 rh0 rfl).trans ((fm_I g203 rh0 rfl).trans ((fm_I g54 rh0 rfl).trans ((fm_I g37 rh0 rfl).trans ((fm_I g22 rh0 rfl).trans e2)))))))
            have hF := FM.tr hF g227 rfl
            refine gl_822 E hW rR ⟨by omega, by omega⟩ dX12_holds_96 (fun y231 m232 b233 => ?_)
            refine lv_iconst (v := 2) hx hb dX12_holds_97 (by decide) ?_
            have J255 : ∀ (f249 : Nat → va_E) (y253 : Int32) (m250 : oI (f249 h0) 0 = 0) (m251 : oR (f249 h0) 2 = pR) (m252 : aI (f249 pR) (3 : Int32).toNatClampNeg = y11) (b254 : (0 : Int) ≤ y253.toInt ∧ y253.toInt ≤ 1) (H : Heap) (locs : List Loc) (ls : Array Slot), WS G cI cJ cZ cD cR cT A kp L f249 s H locs → FM kp L ms_X12_holds f0 f249 → lv_has ls 5 [(0, .ref h0), (1, .int u1), (2, .int u2), (3, .int u3), (4, .int u4)] → W p l e ({ frames := 5, cells := 0, slots := 0, locals := 125 }) s m ([.ref h0, .int u1, .int u2, .int u3, .int u4] : List Value).toArray below meth c H locs 0 0 (MQ below (QT (po_X12_holds kp L f0 h0 u1 u2 u3 u4) G cI cJ cZ cD cR cT A kp L) ([.ref h0, .int u1, .int u2, .int u3, .int u4] : List Value).toArray s 0 0 A) (F0 m 124 ls [.int y253]) := by
              intro f249 y253 m250 m251 m252 b254 H locs ls hW hF hl
              clear c25 b46 h48 h50 c57 c208
              exact e_I E hW rfl ⟨⟨_, rfl, (by first | omega | trivial)⟩, hF⟩ dX12_holds_124
            refine q_icmp_lt (Y := 2) (tgt := 123) hx hb dX12_holds_98 (by decide) rfl rfl (fun c256 => ?_) (fun c256 => ?_)
            · refine lv_iconst (v := 0) hx hb dX12_holds_123 (by decide) ?_
              exact J255 f225 0 m230 ((fm_R g227 rh0 rfl).trans m222) ((congrArg (fun z => aI z (3 : Int32).toNatClampNeg) (fm_A g227 rR (by decide) rfl)).trans m219) (by decide) _ _ _ hW hF (lv_sub hl [0, 1, 2, 3, 4] rfl)
            · refine lv_aload_n hx hb dX12_holds_101 rfl (lv_at hl 0 rfl) ?_
              refine lv_iload_n hx hb dX12_holds_102 rfl (lv_at hl 1 rfl) ?_
              refine lv_iload_n hx hb dX12_holds_103 rfl (lv_at hl 2 rfl) ?_
              refine t_callV (As := [.int u1, .int u2]) (rest := []) E hW (c_X12_isIn l G cI cJ cZ cD cR cT kp L f225 hW.2.2.2 _ h0 u1 u2 rh0 (by omega) (by omega)) rh0 (by decide) rfl wk_X12_isIn tw_1685 rfl ⟨Nat.le_of_ble_eq_true rfl, Nat.le_of_ble_eq_true rfl⟩ ⟨rfl, rfl⟩ hl.1 rfl (Nat.le_of_ble_eq_true rfl) dX12_holds_104 ⟨Nat.le_of_ble_eq_true rfl, Nat.le_of_ble_eq_true rfl⟩ (fun v257 f258 H locs q259 hW => ?_)
              obtain ⟨⟨x261, rfl, p262⟩, g260⟩ := q259
              have m263 : aI (f258 pR) (3 : Int32).toNatClampNeg = y11 := ((congrArg (fun z => aI z (3 : Int32).toNatClampNeg) (fm_A g260 rR (by decide) rfl)).trans ((congrArg (fun z => aI z (3 : Int32).toNatClampNeg) (fm_A g227 rR (by decide) rfl)).trans m219))
              have m264 : aI (f258 pR) (x41 : Int32).toNatClampNeg = y43 := ((congrArg (fun z => aI z (x41 : Int32).toNatClampNeg) (fm_A g260 rR (by decide) rfl)).trans ((congrArg (fun z => aI z (x41 : Int32).toNatClampNeg) (fm_A g227 rR (by decide) rfl)).trans m220))
              have hF := FM.tr hF g260 rfl
              refine q_if_eq (tgt := 123) hx hb dX12_holds_107 (by decide) rfl (fun c265 => ?_) (fun c265 => ?_)
              · refine lv_iconst (v := 0) hx hb dX12_holds_123 (by decide) ?_
                exact J255 f258 0 ((fm_I g260 rh0 rfl).trans m230) ((fm_R g260 rh0 rfl).trans ((fm_R g227 rh0 rfl).trans m222)) m263 (by decide) _ _ _ hW hF (lv_sub hl [0, 1, 2, 3, 4] rfl)
              · refine lv_aload_n hx hb dX12_holds_110 rfl (lv_at hl 0 rfl) ?_
                refine lv_iload_n hx hb dX12_holds_111 rfl (lv_at hl 1 rfl) ?_
                refine lv_iload_n hx hb dX12_holds_112 rfl (lv_at hl 2 rfl) ?_
                refine t_callV (As := [.int u1, .int u2]) (rest := []) E hW (c_X12_isSo l G cI cJ cZ cD cR cT kp L f258 hW.2.2.2 _ h0 u1 u2 rh0 (by omega) (by omega) (by rw [((fm_R g260 rh0 rfl).trans ((fm_R g227 rh0 rfl).trans m222))]; exact ⟨by have z : aI (f258 pR) 3 = y11 := m263; rw [z]; omega, by rw [at_i m264 (by omega) (by omega)]; omega⟩) (by rw [((fm_R g260 rh0 rfl).trans ((fm_R g227 rh0 rfl).trans m222))]; exact (by rw [fm_A hF rR (by decide) rfl]; exact hTX))) rh0 (by decide) rfl wk_X12_isSo tw_1689 rfl ⟨Nat.le_of_ble_eq_true rfl, Nat.le_of_ble_eq_true rfl⟩ ⟨rfl, rfl⟩ hl.1 rfl (Nat.le_of_ble_eq_true rfl) dX12_holds_113 ⟨Nat.le_of_ble_eq_true rfl, Nat.le_of_ble_eq_true rfl⟩ (fun v266 f267 H locs q268 hW => ?_)
                obtain ⟨⟨x270, rfl, p271⟩, g269⟩ := q268
                have m272 : aI (f267 pR) (x228 : Int32).toNatClampNeg = y231 := ((congrArg (fun z => aI z (x228 : Int32).toNatClampNeg) (fm_A g269 rR (by decide) rfl)).trans ((congrArg (fun z => aI z (x228 : Int32).toNatClampNeg) (fm_A g260 rR (by decide) rfl)).trans m232))
                have hF := FM.tr hF g269 rfl
                refine q_if_eq (tgt := 123) hx hb dX12_holds_116 (by decide) rfl (fun c273 => ?_) (fun c273 => ?_)
                · refine lv_iconst (v := 0) hx hb dX12_holds_123 (by decide) ?_
                  exact J255 f267 0 ((fm_I g269 rh0 rfl).trans ((fm_I g260 rh0 rfl).trans m230)) ((fm_R g269 rh0 rfl).trans ((fm_R g260 rh0 rfl).trans ((fm_R g227 rh0 rfl).trans m222))) ((congrArg (fun z => aI z (3 : Int32).toNatClampNeg) (fm_A g269 rR (by decide) rfl)).trans m263) (by decide) _ _ _ hW hF (lv_sub hl [0, 1, 2, 3, 4] rfl)
                · refine lv_iconst (v := 1) hx hb dX12_holds_119 (by decide) ?_
                  refine lv_goto (tgt := 124) hx hb dX12_holds_120 (by decide) ?_
                  exact J255 f267 1 ((fm_I g269 rh0 rfl).trans ((fm_I g260 rh0 rfl).trans m230)) ((fm_R g269 rh0 rfl).trans ((fm_R g260 rh0 rfl).trans ((fm_R g227 rh0 rfl).trans m222))) ((congrArg (fun z => aI z (3 : Int32).toNatClampNeg) (fm_A g269 rR (by decide) rfl)).trans m263) (by decide) _ _ _ hW hF (lv_sub hl [0, 1, 2, 3, 4] rfl)
          · refine lv_aload_n hx hb dX12_holds_65 rfl (lv_at hl 0 rfl) ?_
            refine lv_iload hx hb dX12_holds_66 (lv_at hl 4 rfl) ?_
            refine t_callV (As := [.int u4]) (rest := []) E hW (c_X12_isField l G cI cJ cZ cD cR cT kp L f201 hW.2.2.2 _ h0 u4 rh0) rh0 (by decide) rfl wk_X12_isField tw_1639 rfl ⟨Nat.le_of_ble_eq_true rfl, Nat.le_of_ble_eq_true rfl⟩ ⟨rfl, rfl⟩ hl.1 rfl (Nat.le_of_ble_eq_true rfl) dX12_holds_68 ⟨Nat.le_of_ble_eq_true rfl, Nat.le_of_ble_eq_true rfl⟩ (fun v274 f275 H locs q276 hW => ?_)
            obtain ⟨⟨x278, rfl, p279⟩, g277⟩ := q276
            have hF := FM.tr hF g277 rfl
            refine q_if_ne (tgt := 76) hx hb dX12_holds_71 (by decide) rfl (fun c280 => ?_) (fun c280 => ?_)
            · have q281 : 0 ≤ u4.toInt ∧ u4.toInt ≤ 39 := by omega
              clear p279
              refine lv_aload_n hx hb dX12_holds_76 rfl (lv_at hl 0 rfl) ?_
              refine t_callV (As := []) (rest := []) E hW (c_X12_forceNow l G cI cJ cZ cD cR cT kp L f275 hW.2.2.2 _ h0 rh0 (by rw [((fm_R g277 rh0 rfl).trans ((fm_R g203 rh0 rfl).trans ((fm_R g54 rh0 rfl).trans ((fm_R g37 rh0 rfl).trans m32))))]; exact (by rw [fm_A hF rR (by decide) rfl]; exact hTX))) rh0 (by decide) rfl wk_X12_forceNow tw_1647 rfl ⟨Nat.le_of_ble_eq_true rfl, Nat.le_of_ble_eq_true rfl⟩ ⟨rfl, rfl⟩ hl.1 rfl (Nat.le_of_ble_eq_true rfl) dX12_holds_77 ⟨Nat.le_of_ble_eq_true rfl, Nat.le_of_ble_eq_true rfl⟩ (fun v282 f283 H locs q284 hW => ?_)
              obtain ⟨rfl, g285⟩ := q284
              have m286 : aI (f283 pR) (3 : Int32).toNatClampNeg = y11 := ((congrArg (fun z => aI z (3 : Int32).toNatClampNeg) (fm_A g285 rR (by decide) rfl)).trans ((congrArg (fun z => aI z (3 : Int32).toNatClampNeg) (fm_A g277 rR (by decide) rfl)).trans m206))
              have m287 : aI (f283 pR) (x41 : Int32).toNatClampNeg = y43 := ((congrArg (fun z => aI z (x41 : Int32).toNatClampNeg) (fm_A g285 rR (by decide) rfl)).trans ((congrArg (fun z => aI z (x41 : Int32).toNatClampNeg) (fm_A g277 rR (by decide) rfl)).trans m207))
              have hF := FM.tr hF g285 rfl
              refine lv_aload_n hx hb dX12_holds_80 rfl (lv_at hl 0 rfl) ?_
              refine lv_iload_n hx hb dX12_holds_81 rfl (lv_at hl 3 rfl) ?_
              refine lv_iload hx hb dX12_holds_82 (lv_at hl 4 rfl) ?_
              refine t_callV (As := [.int u3, .int u4]) (rest := []) E hW (c_X12_setFor l G cI cJ cZ cD cR cT kp L f283 hW.2.2.2 _ h0 u3 u4 rh0 (by omega) (by omega)) rh0 (by decide) rfl wk_X12_setFor tw_1673 rfl ⟨Nat.le_of_ble_eq_true rfl, Nat.le_of_ble_eq_true rfl⟩ ⟨rfl, rfl⟩ hl.1 rfl (Nat.le_of_ble_eq_true rfl) dX12_holds_84 ⟨Nat.le_of_ble_eq_true rfl, Nat.le_of_ble_eq_true rfl⟩ (fun v288 f289 H locs q290 hW => ?_)
              obtain ⟨rfl, g291⟩ := q290
              have m292 : oI (f289 h0) 0 = 0 := ((fm_I g291 rh0 rfl).trans ((fm_I g285 rh0 rfl).trans ((fm_I g277 rh0 rfl).trans ((fm_I g203 rh0 rfl).trans ((fm_I g54 rh0 rfl).trans ((fm_I g37 rh0 rfl).trans ((fm_I g22 rh0 rfl).trans e2)))))))
              have hF := FM.tr hF g291 rfl
              refine lv_aload_n hx hb dX12_holds_87 rfl (lv_at hl 0 rfl) ?_
              refine fg_RX12_8 E hW rh0 dX12_holds_88 (fun a293 m294 r295 => ?_)
              obtain rfl : pR = a293 := (((fm_R g291 rh0 rfl).trans ((fm_R g285 rh0 rfl).trans ((fm_R g277 rh0 rfl).trans ((fm_R g203 rh0 rfl).trans ((fm_R g54 rh0 rfl).trans ((fm_R g37 rh0 rfl).trans m32))))))).symm.trans m294
              refine lv_iload_n hx hb dX12_holds_91 rfl (lv_at hl 1 rfl) ?_
              refine lv_iload_n hx hb dX12_holds_92 rfl (lv_at hl 2 rfl) ?_
              refine t_callS (As := [.int u1, .int u2]) (rest := [.ref pR]) E hW (c_X12_clauseAt l G cI cJ cZ cD cR cT kp L f289 hW.2.2.2 _ u1 u2 (by omega) (by omega)) wk_X12_clauseAt tw_1658 rfl ⟨Nat.le_of_ble_eq_true rfl, Nat.le_of_ble_eq_true rfl⟩ ⟨rfl, rfl⟩ hl.1 rfl (Nat.le_of_ble_eq_true rfl) dX12_holds_93 ⟨Nat.le_of_ble_eq_true rfl, Nat.le_of_ble_eq_true rfl⟩ (fun v296 f297 H locs q298 hW => ?_)
              obtain ⟨⟨x300, rfl, p301⟩, g299⟩ := q298
              have m302 : aI (f297 pR) (3 : Int32).toNatClampNeg = y11 := ((congrArg (fun z => aI z (3 : Int32).toNatClampNeg) (fm_A g299 rR (by decide) rfl)).trans ((congrArg (fun z => aI z (3 : Int32).toNatClampNeg) (fm_A g291 rR (by decide) rfl)).trans m286))
              have m303 : aI (f297 pR) (x41 : Int32).toNatClampNeg = y43 := ((congrArg (fun z => aI z (x41 : Int32).toNatClampNeg) (fm_A g299 rR (by decide) rfl)).trans ((congrArg (fun z => aI z (x41 : Int32).toNatClampNeg) (fm_A g291 rR (by decide) rfl)).trans m287))
              have hF := FM.tr hF g299 rfl
              refine gl_822 E hW rR ⟨by omega, by omega⟩ dX12_holds_96 (fun y304 m305 b306 => ?_)
              refine lv_iconst (v := 2) hx hb dX12_holds_97 (by decide) ?_
              have J328 : ∀ (f322 : Nat → va_E) (y326 : Int32) (m323 : oI (f322 h0) 0 = 0) (m324 : oR (f322 h0) 2 = pR) (m325 : aI (f322 pR) (3 : Int32).toNatClampNeg = y11) (b327 : (0 : Int) ≤ y326.toInt ∧ y326.toInt ≤ 1) (H : Heap) (locs : List Loc) (ls : Array Slot), WS G cI cJ cZ cD cR cT A kp L f322 s H locs → FM kp L ms_X12_holds f0 f322 → lv_has ls 5 [(0, .ref h0), (1, .int u1), (2, .int u2), (3, .int u3), (4, .int u4)] → W p l e ({ frames := 5, cells := 0, slots := 0, locals := 125 }) s m ([.ref h0, .int u1, .int u2, .int u3, .int u4] : List Value).toArray below meth c H locs 0 0 (MQ below (QT (po_X12_holds kp L f0 h0 u1 u2 u3 u4) G cI cJ cZ cD cR cT A kp L) ([.ref h0, .int u1, .int u2, .int u3, .int u4] : List Value).toArray s 0 0 A) (F0 m 124 ls [.int y326]) := by
                intro f322 y326 m323 m324 m325 b327 H locs ls hW hF hl
                clear c25 b46 h48 h50 c57 c208 c280
                exact e_I E hW rfl ⟨⟨_, rfl, (by first | omega | trivial)⟩, hF⟩ dX12_holds_124
              refine q_icmp_lt (Y := 2) (tgt := 123) hx hb dX12_holds_98 (by decide) rfl rfl (fun c329 => ?_) (fun c329 => ?_)
              · refine lv_iconst (v := 0) hx hb dX12_holds_123 (by decide) ?_
                exact J328 f297 0 ((fm_I g299 rh0 rfl).trans m292) ((fm_R g299 rh0 rfl).trans m294) m302 (by decide) _ _ _ hW hF (lv_sub hl [0, 1, 2, 3, 4] rfl)
              · refine lv_aload_n hx hb dX12_holds_101 rfl (lv_at hl 0 rfl) ?_
                refine lv_iload_n hx hb dX12_holds_102 rfl (lv_at hl 1 rfl) ?_
                refine lv_iload_n hx hb dX12_holds_103 rfl (lv_at hl 2 rfl) ?_
                refine t_callV (As := [.int u1, .int u2]) (rest := []) E hW (c_X12_isIn l G cI cJ cZ cD cR cT kp L f297 hW.2.2.2 _ h0 u1 u2 rh0 (by omega) (by omega)) rh0 (by decide) rfl wk_X12_isIn tw_1685 rfl ⟨Nat.le_of_ble_eq_true rfl, Nat.le_of_ble_eq_true rfl⟩ ⟨rfl, rfl⟩ hl.1 rfl (Nat.le_of_ble_eq_true rfl) dX12_holds_104 ⟨Nat.le_of_ble_eq_true rfl, Nat.le_of_ble_eq_true rfl⟩ (fun v330 f331 H locs q332 hW => ?_)
                obtain ⟨⟨x334, rfl, p335⟩, g333⟩ := q332
                have hF := FM.tr hF g333 rfl
                refine q_if_eq (tgt := 123) hx hb dX12_holds_107 (by decide) rfl (fun c336 => ?_) (fun c336 => ?_)
                · refine lv_iconst (v := 0) hx hb dX12_holds_123 (by decide) ?_
                  exact J328 f331 0 ((fm_I g333 rh0 rfl).trans ((fm_I g299 rh0 rfl).trans m292)) ((fm_R g333 rh0 rfl).trans ((fm_R g299 rh0 rfl).trans m294)) ((congrArg (fun z => aI z (3 : Int32).toNatClampNeg) (fm_A g333 rR (by decide) rfl)).trans m302) (by decide) _ _ _ hW hF (lv_sub hl [0, 1, 2, 3, 4] rfl)
                · refine lv_aload_n hx hb dX12_holds_110 rfl (lv_at hl 0 rfl) ?_
                  refine lv_iload_n hx hb dX12_holds_111 rfl (lv_at hl 1 rfl) ?_
                  refine lv_iload_n hx hb dX12_holds_112 rfl (lv_at hl 2 rfl) ?_
                  refine t_callV (As := [.int u1, .int u2]) (rest := []) E hW (c_X12_isSo l G cI cJ cZ cD cR cT kp L f331 hW.2.2.2 _ h0 u1 u2 rh0 (by omega) (by omega) (by rw [((fm_R g333 rh0 rfl).trans ((fm_R g299 rh0 rfl).trans m294))]; exact ⟨by have z : aI (f331 pR) 3 = y11 := ((congrArg (fun z => aI z (3 : Int32).toNatClampNeg) (fm_A g333 rR (by decide) rfl)).trans m302); rw [z]; omega, by rw [at_i ((congrArg (fun z => aI z (x41 : Int32).toNatClampNeg) (fm_A g333 rR (by decide) rfl)).trans m303) (by omega) (by omega)]; omega⟩) (by rw [((fm_R g333 rh0 rfl).trans ((fm_R g299 rh0 rfl).trans m294))]; exact (by rw [fm_A hF rR (by decide) rfl]; exact hTX))) rh0 (by decide) rfl wk_X12_isSo tw_1689 rfl ⟨Nat.le_of_ble_eq_true rfl, Nat.le_of_ble_eq_true rfl⟩ ⟨rfl, rfl⟩ hl.1 rfl (Nat.le_of_ble_eq_true rfl) dX12_holds_113 ⟨Nat.le_of_ble_eq_true rfl, Nat.le_of_ble_eq_true rfl⟩ (fun v337 f338 H locs q339 hW => ?_)
                  obtain ⟨⟨x341, rfl, p342⟩, g340⟩ := q339
                  have m343 : aI (f338 pR) (3 : Int32).toNatClampNeg = y11 := ((congrArg (fun z => aI z (3 : Int32).toNatClampNeg) (fm_A g340 rR (by decide) rfl)).trans ((congrArg (fun z => aI z (3 : Int32).toNatClampNeg) (fm_A g333 rR (by decide) rfl)).trans m302))
                  have m344 : aI (f338 pR) (x41 : Int32).toNatClampNeg = y43 := ((congrArg (fun z => aI z (x41 : Int32).toNatClampNeg) (fm_A g340 rR (by decide) rfl)).trans ((congrArg (fun z => aI z (x41 : Int32).toNatClampNeg) (fm_A g333 rR (by decide) rfl)).trans m303))
                  have m345 : aI (f338 pR) (x300 : Int32).toNatClampNeg = y304 := ((congrArg (fun z => aI z (x300 : Int32).toNatClampNeg) (fm_A g340 rR (by decide) rfl)).trans ((congrArg (fun z => aI z (x300 : Int32).toNatClampNeg) (fm_A g333 rR (by decide) rfl)).trans m305))
                  have hF := FM.tr hF g340 rfl
                  refine q_if_eq (tgt := 123) hx hb dX12_holds_116 (by decide) rfl (fun c346 => ?_) (fun c346 => ?_)
                  · refine lv_iconst (v := 0) hx hb dX12_holds_123 (by decide) ?_
                    exact J328 f338 0 ((fm_I g340 rh0 rfl).trans ((fm_I g333 rh0 rfl).trans ((fm_I g299 rh0 rfl).trans m292))) ((fm_R g340 rh0 rfl).trans ((fm_R g333 rh0 rfl).trans ((fm_R g299 rh0 rfl).trans m294))) m343 (by decide) _ _ _ hW hF (lv_sub hl [0, 1, 2, 3, 4] rfl)
                  · refine lv_iconst (v := 1) hx hb dX12_holds_119 (by decide) ?_
                    refine lv_goto (tgt := 124) hx hb dX12_holds_120 (by decide) ?_
                    exact J328 f338 1 ((fm_I g340 rh0 rfl).trans ((fm_I g333 rh0 rfl).trans ((fm_I g299 rh0 rfl).trans m292))) ((fm_R g340 rh0 rfl).trans ((fm_R g333 rh0 rfl).trans ((fm_R g299 rh0 rfl).trans m294))) m343 (by decide) _ _ _ hW hF (lv_sub hl [0, 1, 2, 3, 4] rfl)
            · clear p279
              refine lv_iconst (v := (-1)) hx hb dX12_holds_74 (by decide) ?_
              exact e_I E hW rfl ⟨⟨_, rfl, (by have hk : ((-1) : Int32).toInt = -1 := rfl; first | decide | omega)⟩, hF⟩ dX12_holds_75
def ms_X12_fairOf : List (Nat × Nat) := [(12, 33), (12, 34), (12, 35), (12, 36), (12, 37), (851, 0), (852, 0)]
def po_X12_fairOf (kp : Nat → Nat) (L : List Nat) (f0 : Nat → va_E) (h0 : Nat) (u1 : Int32) : Option Value → (Nat → va_E) → Prop := fun v f => (∃ r : Int32, v = some (.int r) ∧ (True)) ∧ FM kp L ms_X12_fairOf f0 f
set_option maxHeartbeats 4000000 in
set_option maxRecDepth 100000 in
theorem c_X12_fairOf (l : Launch) (G : va_G) (cI cJ cZ cD cR cT : ClassId) (kp : Nat → Nat) (L : List Nat) (f0 : Nat → va_E) (hTH : TH cI cJ cZ cD cR cT kp L f0) (sz : Nat) (h0 : Nat) (u1 : Int32) (rh0 : RK kp L h0 12) (pu1 : (0 : Int) ≤ u1.toInt ∧ u1.toInt ≤ 39) (hTX : TX (aI (f0 (oR (f0 h0) 2)))) : Met l yX12_fairOf (Cond.code yX12_fairOf cX12_fairOf 3 (some .int) :: wTab) ({ frames := 5, cells := 0, slots := 0, locals := 141 }) (va_Pc [.ref h0, .int u1] (PreW G (tys6 cI cJ cZ cD cR cT) (va_pl L f0) sz)) (QT (po_X12_fairOf kp L f0 h0 u1) G cI cJ cZ cD cR cT (va_A (va_pl L f0) sz) kp L) 0 0 (va_A (va_pl L f0) sz) := by
  refine metT (by decide) (Nat.le_of_ble_eq_true rfl) hTH ?_
  intro p e s m below meth c A ls E hW hl
  obtain ⟨hx, hb, -, hml, hown, hts, -, -, -⟩ := id E
  have hF : FM kp L ms_X12_fairOf f0 f0 := FM.rf
  have hl : lv_has ls 3 [(0, .ref h0), (1, .int u1)] := hl
  obtain ⟨pR, mR⟩ : ∃ x : Nat, oR (f0 h0) 2 = x := ⟨_, rfl⟩
  have rR : RK kp L pR 822 := by rw [← mR]; exact th_ref hTH rh0 (by decide) (by decide) rfl
  rw [mR] at hTX
  refine lv_aload_n hx hb dX12_fairOf_0 rfl (lv_at hl 0 rfl) ?_
  refine lv_iload_n hx hb dX12_fairOf_1 rfl (lv_at hl 1 rfl) ?_
  refine t_callV (As := [.int u1]) (rest := []) E hW (c_X12_rentOf l G cI cJ cZ cD cR cT kp L f0 hW.2.2.2 _ h0 u1 rh0 (by omega)) rh0 (by decide) rfl wk_X12_rentOf tw_1665 rfl ⟨Nat.le_of_ble_eq_true rfl, Nat.le_of_ble_eq_true rfl⟩ ⟨rfl, rfl⟩ hl.1 rfl (Nat.le_of_ble_eq_true rfl) dX12_fairOf_2 ⟨Nat.le_of_ble_eq_true rfl, Nat.le_of_ble_eq_true rfl⟩ (fun v1 f2 H locs q3 hW => ?_)
  obtain ⟨⟨x5, rfl, p6⟩, g4⟩ := q3
  have hF := FM.tr hF g4 rfl
  refine lv_istore_n (lv' := [(2, .int x5), (0, .ref h0), (1, .int u1)]) hx hb dX12_fairOf_5 rfl hl (by decide) rfl (fun ls hl => ?_)
  refine lv_aload_n hx hb dX12_fairOf_6 rfl (lv_at hl 1 rfl) ?_
  refine lv_iconst (v := 2) hx hb dX12_fairOf_7 (by decide) ?_
  refine lv_aload_n hx hb dX12_fairOf_8 rfl (lv_at hl 1 rfl) ?_
  refine fg_RX12_8 E hW rh0 dX12_fairOf_9 (fun a7 m8 r9 => ?_)
  obtain rfl : pR = a7 := (((fm_R g4 rh0 rfl).trans mR)).symm.trans m8
  refine lv_iload_n hx hb dX12_fairOf_12 rfl (lv_at hl 2 rfl) ?_
  refine t_callS (As := [.int u1]) (rest := [.ref pR, .int 2, .ref h0]) E hW (c_X12_fieldAt l G cI cJ cZ cD cR cT kp L f2 hW.2.2.2 _ u1 (by omega)) wk_X12_fieldAt tw_1624 rfl ⟨Nat.le_of_ble_eq_true rfl, Nat.le_of_ble_eq_true rfl⟩ ⟨rfl, rfl⟩ hl.1 rfl (Nat.le_of_ble_eq_true rfl) dX12_fairOf_13 ⟨Nat.le_of_ble_eq_true rfl, Nat.le_of_ble_eq_true rfl⟩ (fun v10 f11 H locs q12 hW => ?_)
  obtain ⟨⟨x14, rfl, p15⟩, g13⟩ := q12
  have hF := FM.tr hF g13 rfl
  refine lv_iconst (v := 3) hx hb dX12_fairOf_16 (by decide) ?_
  refine q_iadd (Y := 3) hx hb dX12_fairOf_17 rfl rfl (by omega) (fun x16 h17 => ?_)
  refine gl_822 E hW rR ⟨by omega, by omega⟩ dX12_fairOf_18 (fun y18 m19 b20 => ?_)
  have b21 := rr_fhol (show RowInv _ from b20) m19 (by omega)
  refine lv_iload_n hx hb dX12_fairOf_19 rfl (lv_at hl 2 rfl) ?_
  refine t_callV (As := [.int 2, .int y18, .int u1]) (rest := []) E hW (c_X12_find l G cI cJ cZ cD cR cT kp L f11 hW.2.2.2 _ h0 2 y18 u1 rh0 (by decide) (by omega) (by omega) (by rw [((fm_R g13 rh0 rfl).trans m8)]; exact (by rw [fm_A hF rR (by decide) rfl]; exact hTX))) rh0 (by decide) rfl wk_X12_find tw_1669 rfl ⟨Nat.le_of_ble_eq_true rfl, Nat.le_of_ble_eq_true rfl⟩ ⟨rfl, rfl⟩ hl.1 rfl (Nat.le_of_ble_eq_true rfl) dX12_fairOf_20 ⟨Nat.le_of_ble_eq_true rfl, Nat.le_of_ble_eq_true rfl⟩ (fun v22 f23 H locs q24 hW => ?_)
  obtain ⟨⟨x26, rfl, p27⟩, g25⟩ := q24
  have p27 : (0 : Int) ≤ x26.toInt ∧ x26.toInt ≤ 1 := p27
  have hF := FM.tr hF g25 rfl
  refine q_if_ne (tgt := 28) hx hb dX12_fairOf_23 (by decide) rfl (fun c28 => ?_) (fun c28 => ?_)
  · refine lv_aload_n hx hb dX12_fairOf_28 rfl (lv_at hl 1 rfl) ?_
    refine fg_RX12_427 E hW rh0 dX12_fairOf_29 (fun y29 m30 => ?_)
    refine lv_lconst (v := 0) hx hb dX12_fairOf_32 (by decide) ?_
    have J41 : ∀ (y40 : Int32) (H : Heap) (locs : List Loc) (ls : Array Slot), WS G cI cJ cZ cD cR cT A kp L f23 s H locs → FM kp L ms_X12_fairOf f0 f23 → lv_has ls 3 [(2, .int x5), (0, .ref h0), (1, .int u1)] → W p l e ({ frames := 5, cells := 0, slots := 0, locals := 141 }) s m ([.ref h0, .int u1] : List Value).toArray below meth c H locs 0 0 (MQ below (QT (po_X12_fairOf kp L f0 h0 u1) G cI cJ cZ cD cR cT A kp L) ([.ref h0, .int u1] : List Value).toArray s 0 0 A) (F0 m 60 ls [.int y40]) := by
      intro y40 H locs ls hW hF hl
      clear p27 c28
      exact e_I E hW rfl ⟨⟨_, rfl, trivial⟩, hF⟩ dX12_fairOf_60
    refine q_lcmp_ge (Y := 0) (tgt := 41) hx hb dX12_fairOf_33 dX12_fairOf_34 (by decide) rfl rfl (fun c42 => ?_) (fun c42 => ?_)
    · refine lv_aload_n hx hb dX12_fairOf_41 rfl (lv_at hl 1 rfl) ?_
      refine fg_RX12_427 E hW rh0 dX12_fairOf_42 (fun y43 m44 => ?_)
      refine lv_iload_n hx hb dX12_fairOf_45 rfl (lv_at hl 0 rfl) ?_
      refine q_i2l hx hb dX12_fairOf_46 rfl (fun x45 h46 => ?_)
      have hb47 : -2147483648 ≤ x45.toInt ∧ x45.toInt ≤ 2147483647 := by have := i32_b x5; omega
      refine q_lcmp_le (tgt := 55) hx hb dX12_fairOf_47 dX12_fairOf_48 (by decide) rfl rfl (fun c48 => ?_) (fun c48 => ?_)
      · refine lv_aload_n hx hb dX12_fairOf_55 rfl (lv_at hl 1 rfl) ?_
        refine fg_RX12_427 E hW rh0 dX12_fairOf_56 (fun y49 m50 => ?_)
        refine u_l2i hx hb dX12_fairOf_59 (fun x51 => ?_)
        exact J41 x51  _ _ _ hW hF (lv_sub hl [0, 1, 2] rfl)
      · refine lv_iload_n hx hb dX12_fairOf_51 rfl (lv_at hl 0 rfl) ?_
        refine lv_goto (tgt := 60) hx hb dX12_fairOf_52 (by decide) ?_
        exact J41 x5  _ _ _ hW hF (lv_sub hl [0, 1, 2] rfl)
    · refine lv_iconst (v := 0) hx hb dX12_fairOf_37 (by decide) ?_
      refine lv_goto (tgt := 60) hx hb dX12_fairOf_38 (by decide) ?_
      exact J41 0  _ _ _ hW hF (lv_sub hl [0, 1, 2] rfl)
  · refine lv_iload_n hx hb dX12_fairOf_26 rfl (lv_at hl 0 rfl) ?_
    exact e_I E hW rfl ⟨⟨_, rfl, trivial⟩, hF⟩ dX12_fairOf_27
def ms_X12_keepsField : List (Nat × Nat) := [(12, 33), (12, 34), (12, 35), (12, 36), (12, 37), (851, 0), (852, 0)]
def po_X12_keepsField (kp : Nat → Nat) (L : List Nat) (f0 : Nat → va_E) (h0 : Nat) (u1 : Int32) : Option Value → (Nat → va_E) → Prop := fun v f => (∃ r : Int32, v = some (.int r) ∧ ((0 : Int) ≤ r.toInt ∧ r.toInt ≤ 1)) ∧ FM kp L ms_X12_keepsField f0 f
set_option maxHeartbeats 4000000 in
set_option maxRecDepth 100000 in
theorem c_X12_keepsField (l : Launch) (G : va_G) (cI cJ cZ cD cR cT : ClassId) (kp : Nat → Nat) (L : List Nat) (f0 : Nat → va_E) (hTH : TH cI cJ cZ cD cR cT kp L f0) (sz : Nat) (h0 : Nat) (u1 : Int32) (rh0 : RK kp L h0 12) (pu1 : (0 : Int) ≤ u1.toInt ∧ u1.toInt ≤ 39) (hTX : TX (aI (f0 (oR (f0 h0) 2)))) : Met l yX12_keepsField (Cond.code yX12_keepsField cX12_keepsField 3 (some .boolean) :: wTab) ({ frames := 5, cells := 0, slots := 0, locals := 141 }) (va_Pc [.ref h0, .int u1] (PreW G (tys6 cI cJ cZ cD cR cT) (va_pl L f0) sz)) (QT (po_X12_keepsField kp L f0 h0 u1) G cI cJ cZ cD cR cT (va_A (va_pl L f0) sz) kp L) 0 0 (va_A (va_pl L f0) sz) := by
  refine metT (by decide) (Nat.le_of_ble_eq_true rfl) hTH ?_
  intro p e s m below meth c A ls E hW hl
  obtain ⟨hx, hb, -, hml, hown, hts, -, -, -⟩ := id E
  have hF : FM kp L ms_X12_keepsField f0 f0 := FM.rf
  have hl : lv_has ls 3 [(0, .ref h0), (1, .int u1)] := hl
  obtain ⟨pR, mR⟩ : ∃ x : Nat, oR (f0 h0) 2 = x := ⟨_, rfl⟩
  have rR : RK kp L pR 822 := by rw [← mR]; exact th_ref hTH rh0 (by decide) (by decide) rfl
  rw [mR] at hTX
  refine lv_iconst (v := 0) hx hb dX12_keepsField_0 (by decide) ?_
  refine lv_istore_n (lv' := [(2, .int 0), (0, .ref h0), (1, .int u1)]) hx hb dX12_keepsField_1 rfl hl (by decide) rfl (fun ls hl => ?_)
  have L206 : ∀ (n : Nat), ∀ (y204 : Int32) (b205 : (0 : Int) ≤ y204.toInt ∧ y204.toInt ≤ 6) (hm : (7 : Int) - y204.toInt ≤ n) (H : Heap) (locs : List Loc) (ls : Array Slot), WS G cI cJ cZ cD cR cT A kp L f0 s H locs → FM kp L ms_X12_keepsField f0 f0 → lv_has ls 3 [(2, .int y204), (0, .ref h0), (1, .int u1)] → W p l e ({ frames := 5, cells := 0, slots := 0, locals := 141 }) s m ([.ref h0, .int u1] : List Value).toArray below meth c H locs 0 0 (MQ below (QT (po_X12_keepsField kp L f0 h0 u1) G cI cJ cZ cD cR cT A kp L) ([.ref h0, .int u1] : List Value).toArray s 0 0 A) (F0 m 2 ls []) := by
    intro n
    induction n with
    | zero =>
      intro y204 b205 hm H locs ls hW hF hl
      have hz := i32_b y204
      exfalso; omega
    | succ n ih =>
      intro y204 b205 hm H locs ls hW hF hl
      have ih2 := ih
      refine lv_iload_n hx hb dX12_keepsField_2 rfl (lv_at hl 0 rfl) ?_
      refine lv_aload_n hx hb dX12_keepsField_3 rfl (lv_at hl 1 rfl) ?_
      refine fg_RX12_446 E hW rh0 dX12_keepsField_4 (fun y207 m208 b209 => ?_)
      refine q_icmp_ge (tgt := 51) hx hb dX12_keepsField_7 (by decide) rfl rfl (fun c210 => ?_) (fun c210 => ?_)
      · refine lv_aload_n hx hb dX12_keepsField_51 rfl (lv_at hl 1 rfl) ?_
        refine lv_iconst (v := 4) hx hb dX12_keepsField_52 (by decide) ?_
        refine lv_aload_n hx hb dX12_keepsField_53 rfl (lv_at hl 1 rfl) ?_
        refine fg_RX12_8 E hW rh0 dX12_keepsField_54 (fun a211 m212 r213 => ?_)
        obtain rfl : pR = a211 := (mR).symm.trans m212
        refine lv_iload_n hx hb dX12_keepsField_57 rfl (lv_at hl 2 rfl) ?_
        refine t_callS (As := [.int u1]) (rest := [.ref pR, .int 4, .ref h0]) E hW (c_X12_fieldAt l G cI cJ cZ cD cR cT kp L f0 hW.2.2.2 _ u1 (by omega)) wk_X12_fieldAt tw_1624 rfl ⟨Nat.le_of_ble_eq_true rfl, Nat.le_of_ble_eq_true rfl⟩ ⟨rfl, rfl⟩ hl.1 rfl (Nat.le_of_ble_eq_true rfl) dX12_keepsField_58 ⟨Nat.le_of_ble_eq_true rfl, Nat.le_of_ble_eq_true rfl⟩ (fun v214 f215 H locs q216 hW => ?_)
        obtain ⟨⟨x218, rfl, p219⟩, g217⟩ := q216
        have hF := FM.tr hF g217 rfl
        refine lv_iconst (v := 3) hx hb dX12_keepsField_61 (by decide) ?_
        refine q_iadd (Y := 3) hx hb dX12_keepsField_62 rfl rfl (by omega) (fun x220 h221 => ?_)
        refine gl_822 E hW rR ⟨by omega, by omega⟩ dX12_keepsField_63 (fun y222 m223 b224 => ?_)
        have b225 := rr_fhol (show RowInv _ from b224) m223 (by omega)
        refine lv_iload_n hx hb dX12_keepsField_64 rfl (lv_at hl 2 rfl) ?_
        refine t_callV (As := [.int 4, .int y222, .int u1]) (rest := []) E hW (c_X12_find l G cI cJ cZ cD cR cT kp L f215 hW.2.2.2 _ h0 4 y222 u1 rh0 (by decide) (by omega) (by omega) (by rw [((fm_R g217 rh0 rfl).trans m212)]; exact (by rw [fm_A hF rR (by decide) rfl]; exact hTX))) rh0 (by decide) rfl wk_X12_find tw_1669 rfl ⟨Nat.le_of_ble_eq_true rfl, Nat.le_of_ble_eq_true rfl⟩ ⟨rfl, rfl⟩ hl.1 rfl (Nat.le_of_ble_eq_true rfl) dX12_keepsField_65 ⟨Nat.le_of_ble_eq_true rfl, Nat.le_of_ble_eq_true rfl⟩ (fun v226 f227 H locs q228 hW => ?_)
        obtain ⟨⟨x230, rfl, p231⟩, g229⟩ := q228
        have p231 : (0 : Int) ≤ x230.toInt ∧ x230.toInt ≤ 1 := p231
        have hF := FM.tr hF g229 rfl
        exact e_Z E hW rfl (by omega) ⟨⟨_, rfl, (by first | omega | trivial)⟩, hF⟩ dX12_keepsField_68
      · refine lv_aload_n hx hb dX12_keepsField_10 rfl (lv_at hl 1 rfl) ?_
        refine fg_RX12_161 E hW rh0 dX12_keepsField_11 (fun y232 m233 b234 => ?_)
        refine q_if_eq (tgt := 51) hx hb dX12_keepsField_14 (by decide) rfl (fun c235 => ?_) (fun c235 => ?_)
        · refine lv_aload_n hx hb dX12_keepsField_51 rfl (lv_at hl 1 rfl) ?_
          refine lv_iconst (v := 4) hx hb dX12_keepsField_52 (by decide) ?_
          refine lv_aload_n hx hb dX12_keepsField_53 rfl (lv_at hl 1 rfl) ?_
          refine fg_RX12_8 E hW rh0 dX12_keepsField_54 (fun a236 m237 r238 => ?_)
          obtain rfl : pR = a236 := (mR).symm.trans m237
          refine lv_iload_n hx hb dX12_keepsField_57 rfl (lv_at hl 2 rfl) ?_
          refine t_callS (As := [.int u1]) (rest := [.ref pR, .int 4, .ref h0]) E hW (c_X12_fieldAt l G cI cJ cZ cD cR cT kp L f0 hW.2.2.2 _ u1 (by omega)) wk_X12_fieldAt tw_1624 rfl ⟨Nat.le_of_ble_eq_true rfl, Nat.le_of_ble_eq_true rfl⟩ ⟨rfl, rfl⟩ hl.1 rfl (Nat.le_of_ble_eq_true rfl) dX12_keepsField_58 ⟨Nat.le_of_ble_eq_true rfl, Nat.le_of_ble_eq_true rfl⟩ (fun v239 f240 H locs q241 hW => ?_)
          obtain ⟨⟨x243, rfl, p244⟩, g242⟩ := q241
          have hF := FM.tr hF g242 rfl
          refine lv_iconst (v := 3) hx hb dX12_keepsField_61 (by decide) ?_
          refine q_iadd (Y := 3) hx hb dX12_keepsField_62 rfl rfl (by omega) (fun x245 h246 => ?_)
          refine gl_822 E hW rR ⟨by omega, by omega⟩ dX12_keepsField_63 (fun y247 m248 b249 => ?_)
          have b250 := rr_fhol (show RowInv _ from b249) m248 (by omega)
          refine lv_iload_n hx hb dX12_keepsField_64 rfl (lv_at hl 2 rfl) ?_
          refine t_callV (As := [.int 4, .int y247, .int u1]) (rest := []) E hW (c_X12_find l G cI cJ cZ cD cR cT kp L f240 hW.2.2.2 _ h0 4 y247 u1 rh0 (by decide) (by omega) (by omega) (by rw [((fm_R g242 rh0 rfl).trans m237)]; exact (by rw [fm_A hF rR (by decide) rfl]; exact hTX))) rh0 (by decide) rfl wk_X12_find tw_1669 rfl ⟨Nat.le_of_ble_eq_true rfl, Nat.le_of_ble_eq_true rfl⟩ ⟨rfl, rfl⟩ hl.1 rfl (Nat.le_of_ble_eq_true rfl) dX12_keepsField_65 ⟨Nat.le_of_ble_eq_true rfl, Nat.le_of_ble_eq_true rfl⟩ (fun v251 f252 H locs q253 hW => ?_)
          obtain ⟨⟨x255, rfl, p256⟩, g254⟩ := q253
          have p256 : (0 : Int) ≤ x255.toInt ∧ x255.toInt ≤ 1 := p256
          have hF := FM.tr hF g254 rfl
          exact e_Z E hW rfl (by omega) ⟨⟨_, rfl, (by first | omega | trivial)⟩, hF⟩ dX12_keepsField_68
        · refine lv_aload_n hx hb dX12_keepsField_17 rfl (lv_at hl 1 rfl) ?_
          refine fg_RX12_73 E hW rh0 dX12_keepsField_18 (fun a257 m258 r259 => ?_)
          refine lv_iload_n hx hb dX12_keepsField_21 rfl (lv_at hl 0 rfl) ?_
          refine gl_862 E hW r259 ⟨by omega, by omega⟩ dX12_keepsField_22 (fun y260 m261 b262 => ?_)
          refine lv_iload_n hx hb dX12_keepsField_23 rfl (lv_at hl 2 rfl) ?_
          refine q_icmp_ne (tgt := 45) hx hb dX12_keepsField_24 (by decide) rfl rfl (fun c263 => ?_) (fun c263 => ?_)
          · refine q_iinc hx hb dX12_keepsField_45 hl (k := 0) rfl rfl rfl (by omega) (by decide) (fun i264 ls h265 hl => ?_)
            have hl : lv_has ls 3 [(2, .int i264), (0, .ref h0), (1, .int u1)] := hl
            refine lv_goto (tgt := 2) hx hb dX12_keepsField_48 (by decide) ?_
            exact ih2 i264 (by omega) (by omega) _ _ _ hW hF (lv_sub hl [0, 1, 2] rfl)
          · refine lv_aload_n hx hb dX12_keepsField_27 rfl (lv_at hl 1 rfl) ?_
            refine fg_RX12_449 E hW rh0 dX12_keepsField_28 (fun y266 m267 => ?_)
            refine lv_iload_n hx hb dX12_keepsField_31 rfl (lv_at hl 0 rfl) ?_
            refine u_ishr hx hb dX12_keepsField_32 (fun x269 => ?_)
            refine lv_iconst (v := 1) hx hb dX12_keepsField_33 (by decide) ?_
            refine q_iand (M := 1) (k := 1) hx hb dX12_keepsField_34 (by decide) (by decide) (by decide) (fun x270 h271 => ?_)
            refine lv_iconst (v := 1) hx hb dX12_keepsField_35 (by decide) ?_
            have J274 : ∀ (y272 : Int32) (b273 : (0 : Int) ≤ y272.toInt ∧ y272.toInt ≤ 1) (H : Heap) (locs : List Loc) (ls : Array Slot), WS G cI cJ cZ cD cR cT A kp L f0 s H locs → FM kp L ms_X12_keepsField f0 f0 → lv_has ls 3 [(2, .int y204), (0, .ref h0), (1, .int u1)] → W p l e ({ frames := 5, cells := 0, slots := 0, locals := 141 }) s m ([.ref h0, .int u1] : List Value).toArray below meth c H locs 0 0 (MQ below (QT (po_X12_keepsField kp L f0 h0 u1) G cI cJ cZ cD cR cT A kp L) ([.ref h0, .int u1] : List Value).toArray s 0 0 A) (F0 m 44 ls [.int y272]) := by
              intro y272 b273 H locs ls hW hF hl
              clear h271
              exact e_Z E hW rfl (by omega) ⟨⟨_, rfl, (by first | omega | trivial)⟩, hF⟩ dX12_keepsField_44
            refine q_icmp_ne (Y := 1) (tgt := 43) hx hb dX12_keepsField_36 (by decide) rfl rfl (fun c275 => ?_) (fun c275 => ?_)
            · refine lv_iconst (v := 0) hx hb dX12_keepsField_43 (by decide) ?_
              exact J274 0 (by decide) _ _ _ hW hF (lv_sub hl [0, 1, 2] rfl)
            · refine lv_iconst (v := 1) hx hb dX12_keepsField_39 (by decide) ?_
              refine lv_goto (tgt := 44) hx hb dX12_keepsField_40 (by decide) ?_
              exact J274 1 (by decide) _ _ _ hW hF (lv_sub hl [0, 1, 2] rfl)
  have hk276 : (0 : Int32).toInt = 0 := rfl
  exact L206 7 0 (by decide) (by omega) _ _ _ hW hF (lv_sub hl [0, 1, 2] rfl)
def ms_X12_tells : List (Nat × Nat) := [(12, 0), (12, 33), (12, 34), (12, 35), (12, 36), (12, 37), (849, 0), (850, 0), (851, 0), (852, 0)]
def po_X12_tells (kp : Nat → Nat) (L : List Nat) (f0 : Nat → va_E) (h0 : Nat) (u1 : Int32) (u2 : Int32) : Option Value → (Nat → va_E) → Prop := fun v f => (∃ r : Int32, v = some (.int r) ∧ (True)) ∧ FM kp L ms_X12_tells f0 f
set_option maxHeartbeats 4000000 in
set_option maxRecDepth 100000 in
theorem c_X12_tells (l : Launch) (G : va_G) (cI cJ cZ cD cR cT : ClassId) (kp : Nat → Nat) (L : List Nat) (f0 : Nat → va_E) (hTH : TH cI cJ cZ cD cR cT kp L f0) (sz : Nat) (h0 : Nat) (u1 : Int32) (u2 : Int32) (rh0 : RK kp L h0 12) (hTX : TX (aI (f0 (oR (f0 h0) 2)))) : Met l yX12_tells (Cond.code yX12_tells cX12_tells 5 (some .int) :: wTab) ({ frames := 6, cells := 0, slots := 0, locals := 163 }) (va_Pc [.ref h0, .int u1, .int u2] (PreW G (tys6 cI cJ cZ cD cR cT) (va_pl L f0) sz)) (QT (po_X12_tells kp L f0 h0 u1 u2) G cI cJ cZ cD cR cT (va_A (va_pl L f0) sz) kp L) 0 0 (va_A (va_pl L f0) sz) := by
  refine metT (by decide) (Nat.le_of_ble_eq_true rfl) hTH ?_
  intro p e s m below meth c A ls E hW hl
  obtain ⟨hx, hb, -, hml, hown, hts, -, -, -⟩ := id E
  have hF : FM kp L ms_X12_tells f0 f0 := FM.rf
  have hl : lv_has ls 5 [(0, .ref h0), (1, .int u1), (2, .int u2)] := hl
  obtain ⟨pR, mR⟩ : ∃ x : Nat, oR (f0 h0) 2 = x := ⟨_, rfl⟩
  have rR : RK kp L pR 822 := by rw [← mR]; exact th_ref hTH rh0 (by decide) (by decide) rfl
  rw [mR] at hTX
  refine lv_aload_n hx hb dX12_tells_0 rfl (lv_at hl 0 rfl) ?_
  refine lv_iconst (v := 0) hx hb dX12_tells_1 (by decide) ?_
  refine fp_RX12_82 E hW rh0 dX12_tells_2 (fun f1 H locs e2 n3 g4 hW => ?_)
  have hF := FM.tr hF g4 rfl
  refine lv_aload_n hx hb dX12_tells_5 rfl (lv_at hl 0 rfl) ?_
  refine lv_iload_n hx hb dX12_tells_6 rfl (lv_at hl 1 rfl) ?_
  refine t_callV (As := [.int u1]) (rest := []) E hW (c_X12_isField l G cI cJ cZ cD cR cT kp L f1 hW.2.2.2 _ h0 u1 rh0) rh0 (by decide) rfl wk_X12_isField tw_1639 rfl ⟨Nat.le_of_ble_eq_true rfl, Nat.le_of_ble_eq_true rfl⟩ ⟨rfl, rfl⟩ hl.1 rfl (Nat.le_of_ble_eq_true rfl) dX12_tells_7 ⟨Nat.le_of_ble_eq_true rfl, Nat.le_of_ble_eq_true rfl⟩ (fun v5 f6 H locs q7 hW => ?_)
  obtain ⟨⟨x9, rfl, p10⟩, g8⟩ := q7
  have hF := FM.tr hF g8 rfl
  refine q_if_ne (tgt := 15) hx hb dX12_tells_10 (by decide) rfl (fun c11 => ?_) (fun c11 => ?_)
  · have q12 : 0 ≤ u1.toInt ∧ u1.toInt ≤ 39 := by omega
    clear p10
    refine lv_iload_n hx hb dX12_tells_15 rfl (lv_at hl 1 rfl) ?_
    refine t_callS (As := [.int u1]) (rest := []) E hW (c_X12_fieldAt l G cI cJ cZ cD cR cT kp L f6 hW.2.2.2 _ u1 (by omega)) wk_X12_fieldAt tw_1624 rfl ⟨Nat.le_of_ble_eq_true rfl, Nat.le_of_ble_eq_true rfl⟩ ⟨rfl, rfl⟩ hl.1 rfl (Nat.le_of_ble_eq_true rfl) dX12_tells_16 ⟨Nat.le_of_ble_eq_true rfl, Nat.le_of_ble_eq_true rfl⟩ (fun v13 f14 H locs q15 hW => ?_)
    obtain ⟨⟨x17, rfl, p18⟩, g16⟩ := q15
    have hF := FM.tr hF g16 rfl
    refine lv_istore_n (lv' := [(3, .int x17), (0, .ref h0), (1, .int u1), (2, .int u2)]) hx hb dX12_tells_19 rfl hl (by decide) rfl (fun ls hl => ?_)
    refine lv_aload_n hx hb dX12_tells_20 rfl (lv_at hl 1 rfl) ?_
    refine lv_iload_n hx hb dX12_tells_21 rfl (lv_at hl 2 rfl) ?_
    refine t_callV (As := [.int u1]) (rest := []) E hW (c_X12_writOf l G cI cJ cZ cD cR cT kp L f14 hW.2.2.2 _ h0 u1 rh0 (by omega)) rh0 (by decide) rfl wk_X12_writOf tw_1643 rfl ⟨Nat.le_of_ble_eq_true rfl, Nat.le_of_ble_eq_true rfl⟩ ⟨rfl, rfl⟩ hl.1 rfl (Nat.le_of_ble_eq_true rfl) dX12_tells_22 ⟨Nat.le_of_ble_eq_true rfl, Nat.le_of_ble_eq_true rfl⟩ (fun v19 f20 H locs q21 hW => ?_)
    obtain ⟨⟨x23, rfl, p24⟩, g22⟩ := q21
    have hF := FM.tr hF g22 rfl
    refine lv_istore (lv' := [(4, .int x23), (3, .int x17), (0, .ref h0), (1, .int u1), (2, .int u2)]) hx hb dX12_tells_25 hl (by decide) rfl (fun ls hl => ?_)
    refine lv_iload_n hx hb dX12_tells_27 rfl (lv_at hl 4 rfl) ?_
    by_cases c25 : u2.toInt = 0
    · refine lv_tableIn (tgt := 76) hx hb dX12_tells_28 (by omega) (by omega) (by rw [c25]; rfl) (by decide) ?_
      refine lv_aload_n hx hb dX12_tells_76 rfl (lv_at hl 2 rfl) ?_
      refine fg_RX12_8 E hW rh0 dX12_tells_77 (fun a26 m27 r28 => ?_)
      obtain rfl : pR = a26 := (((fm_R g22 rh0 rfl).trans ((fm_R g16 rh0 rfl).trans ((fm_R g8 rh0 rfl).trans ((fm_R g4 rh0 rfl).trans mR))))).symm.trans m27
      refine lv_iload_n hx hb dX12_tells_80 rfl (lv_at hl 1 rfl) ?_
      refine lv_iconst (v := 3) hx hb dX12_tells_81 (by decide) ?_
      refine q_iadd (Y := 3) hx hb dX12_tells_82 rfl rfl (by omega) (fun x29 h30 => ?_)
      refine gl_822 E hW rR ⟨by omega, by omega⟩ dX12_tells_83 (fun y31 m32 b33 => ?_)
      have b34 := rr_fhol (show RowInv _ from b33) m32 (by omega)
      exact e_I E hW rfl ⟨⟨_, rfl, trivial⟩, hF⟩ dX12_tells_84
    by_cases c35 : u2.toInt = 1
    · refine lv_tableIn (tgt := 85) hx hb dX12_tells_28 (by omega) (by omega) (by rw [c35]; rfl) (by decide) ?_
      refine lv_aload_n hx hb dX12_tells_85 rfl (lv_at hl 2 rfl) ?_
      refine fg_RX12_8 E hW rh0 dX12_tells_86 (fun a36 m37 r38 => ?_)
      obtain rfl : pR = a36 := (((fm_R g22 rh0 rfl).trans ((fm_R g16 rh0 rfl).trans ((fm_R g8 rh0 rfl).trans ((fm_R g4 rh0 rfl).trans mR))))).symm.trans m37
      refine lv_iload_n hx hb dX12_tells_89 rfl (lv_at hl 1 rfl) ?_
      refine lv_iconst (v := 2) hx hb dX12_tells_90 (by decide) ?_
      refine q_iadd (Y := 2) hx hb dX12_tells_91 rfl rfl (by omega) (fun x39 h40 => ?_)
      refine gl_822 E hW rR ⟨by omega, by omega⟩ dX12_tells_92 (fun y41 m42 b43 => ?_)
      exact e_I E hW rfl ⟨⟨_, rfl, trivial⟩, hF⟩ dX12_tells_93
    by_cases c44 : u2.toInt = 2
    · refine lv_tableIn (tgt := 94) hx hb dX12_tells_28 (by omega) (by omega) (by rw [c44]; rfl) (by decide) ?_
      refine lv_aload_n hx hb dX12_tells_94 rfl (lv_at hl 2 rfl) ?_
      refine fg_RX12_8 E hW rh0 dX12_tells_95 (fun a45 m46 r47 => ?_)
      obtain rfl : pR = a45 := (((fm_R g22 rh0 rfl).trans ((fm_R g16 rh0 rfl).trans ((fm_R g8 rh0 rfl).trans ((fm_R g4 rh0 rfl).trans mR))))).symm.trans m46
      refine lv_iload_n hx hb dX12_tells_98 rfl (lv_at hl 1 rfl) ?_
      refine lv_iconst (v := 4) hx hb dX12_tells_99 (by decide) ?_
      refine q_iadd (Y := 4) hx hb dX12_tells_100 rfl rfl (by omega) (fun x48 h49 => ?_)
      refine gl_822 E hW rR ⟨by omega, by omega⟩ dX12_tells_101 (fun y50 m51 b52 => ?_)
      exact e_I E hW rfl ⟨⟨_, rfl, trivial⟩, hF⟩ dX12_tells_102
    by_cases c53 : u2.toInt = 3
    · refine lv_tableIn (tgt := 103) hx hb dX12_tells_28 (by omega) (by omega) (by rw [c53]; rfl) (by decide) ?_
      refine lv_aload_n hx hb dX12_tells_103 rfl (lv_at hl 2 rfl) ?_
      refine t_callV (As := []) (rest := []) E hW (c_X12_forceNow l G cI cJ cZ cD cR cT kp L f20 hW.2.2.2 _ h0 rh0 (by rw [((fm_R g22 rh0 rfl).trans ((fm_R g16 rh0 rfl).trans ((fm_R g8 rh0 rfl).trans ((fm_R g4 rh0 rfl).trans mR))))]; exact (by rw [fm_A hF rR (by decide) rfl]; exact hTX))) rh0 (by decide) rfl wk_X12_forceNow tw_1647 rfl ⟨Nat.le_of_ble_eq_true rfl, Nat.le_of_ble_eq_true rfl⟩ ⟨rfl, rfl⟩ hl.1 rfl (Nat.le_of_ble_eq_true rfl) dX12_tells_104 ⟨Nat.le_of_ble_eq_true rfl, Nat.le_of_ble_eq_true rfl⟩ (fun v54 f55 H locs q56 hW => ?_)
      obtain ⟨rfl, g57⟩ := q56
      have hF := FM.tr hF g57 rfl
      refine lv_aload_n hx hb dX12_tells_107 rfl (lv_at hl 2 rfl) ?_
      refine fg_RX12_8 E hW rh0 dX12_tells_108 (fun a58 m59 r60 => ?_)
      obtain rfl : pR = a58 := (((fm_R g57 rh0 rfl).trans ((fm_R g22 rh0 rfl).trans ((fm_R g16 rh0 rfl).trans ((fm_R g8 rh0 rfl).trans ((fm_R g4 rh0 rfl).trans mR)))))).symm.trans m59
      refine lv_iload_n hx hb dX12_tells_111 rfl (lv_at hl 1 rfl) ?_
      refine lv_iconst (v := 3) hx hb dX12_tells_112 (by decide) ?_
      refine q_iadd (Y := 3) hx hb dX12_tells_113 rfl rfl (by omega) (fun x61 h62 => ?_)
      refine gl_822 E hW rR ⟨by omega, by omega⟩ dX12_tells_114 (fun y63 m64 b65 => ?_)
      have b66 := rr_fhol (show RowInv _ from b65) m64 (by omega)
      refine lv_iconst (v := (-1)) hx hb dX12_tells_115 (by decide) ?_
      have J77 : ∀ (f73 : Nat → va_E) (y76 : Int32) (m74 : oI (f73 h0) 0 = 0) (m75 : oR (f73 h0) 2 = pR) (H : Heap) (locs : List Loc) (ls : Array Slot), WS G cI cJ cZ cD cR cT A kp L f73 s H locs → FM kp L ms_X12_tells f0 f73 → lv_has ls 5 [(4, .int x23), (3, .int x17), (0, .ref h0), (1, .int u1), (2, .int u2)] → W p l e ({ frames := 6, cells := 0, slots := 0, locals := 163 }) s m ([.ref h0, .int u1, .int u2] : List Value).toArray below meth c H locs 0 0 (MQ below (QT (po_X12_tells kp L f0 h0 u1 u2) G cI cJ cZ cD cR cT A kp L) ([.ref h0, .int u1, .int u2] : List Value).toArray s 0 0 A) (F0 m 128 ls [.int y76]) := by
        intro f73 y76 m74 m75 H locs ls hW hF hl
        clear c11 b66
        exact e_I E hW rfl ⟨⟨_, rfl, trivial⟩, hF⟩ dX12_tells_128
      refine q_icmp_ne (Y := -1) (tgt := 123) hx hb dX12_tells_116 (by decide) rfl rfl (fun c78 => ?_) (fun c78 => ?_)
      · refine lv_aload_n hx hb dX12_tells_123 rfl (lv_at hl 2 rfl) ?_
        refine lv_iload_n hx hb dX12_tells_124 rfl (lv_at hl 3 rfl) ?_
        refine t_callV (As := [.int u1]) (rest := []) E hW (c_X12_fairOf l G cI cJ cZ cD cR cT kp L f55 hW.2.2.2 _ h0 u1 rh0 (by omega) (by rw [m59]; exact (by rw [fm_A hF rR (by decide) rfl]; exact hTX))) rh0 (by decide) rfl wk_X12_fairOf tw_1661 rfl ⟨Nat.le_of_ble_eq_true rfl, Nat.le_of_ble_eq_true rfl⟩ ⟨rfl, rfl⟩ hl.1 rfl (Nat.le_of_ble_eq_true rfl) dX12_tells_125 ⟨Nat.le_of_ble_eq_true rfl, Nat.le_of_ble_eq_true rfl⟩ (fun v79 f80 H locs q81 hW => ?_)
        obtain ⟨⟨x83, rfl, p84⟩, g82⟩ := q81
        clear p84
        have hF := FM.tr hF g82 rfl
        exact J77 f80 x83 ((fm_I g82 rh0 rfl).trans ((fm_I g57 rh0 rfl).trans ((fm_I g22 rh0 rfl).trans ((fm_I g16 rh0 rfl).trans ((fm_I g8 rh0 rfl).trans e2))))) ((fm_R g82 rh0 rfl).trans m59) _ _ _ hW hF (lv_sub hl [0, 1, 2, 3, 4] rfl)
      · refine lv_iconst (v := (-1)) hx hb dX12_tells_119 (by decide) ?_
        refine lv_goto (tgt := 128) hx hb dX12_tells_120 (by decide) ?_
        exact J77 f55 (-1) ((fm_I g57 rh0 rfl).trans ((fm_I g22 rh0 rfl).trans ((fm_I g16 rh0 rfl).trans ((fm_I g8 rh0 rfl).trans e2)))) m59 _ _ _ hW hF (lv_sub hl [0, 1, 2, 3, 4] rfl)
    by_cases c85 : u2.toInt = 4
    · refine lv_tableIn (tgt := 129) hx hb dX12_tells_28 (by omega) (by omega) (by rw [c85]; rfl) (by decide) ?_
      refine lv_aload_n hx hb dX12_tells_129 rfl (lv_at hl 2 rfl) ?_
      refine t_callV (As := []) (rest := []) E hW (c_X12_forceNow l G cI cJ cZ cD cR cT kp L f20 hW.2.2.2 _ h0 rh0 (by rw [((fm_R g22 rh0 rfl).trans ((fm_R g16 rh0 rfl).trans ((fm_R g8 rh0 rfl).trans ((fm_R g4 rh0 rfl).trans mR))))]; exact (by rw [fm_A hF rR (by decide) rfl]; exact hTX))) rh0 (by decide) rfl wk_X12_forceNow tw_1647 rfl ⟨Nat.le_of_ble_eq_true rfl, Nat.le_of_ble_eq_true rfl⟩ ⟨rfl, rfl⟩ hl.1 rfl (Nat.le_of_ble_eq_true rfl) dX12_tells_130 ⟨Nat.le_of_ble_eq_true rfl, Nat.le_of_ble_eq_true rfl⟩ (fun v86 f87 H locs q88 hW => ?_)
      obtain ⟨rfl, g89⟩ := q88
      have hF := FM.tr hF g89 rfl
      refine lv_aload_n hx hb dX12_tells_133 rfl (lv_at hl 2 rfl) ?_
      refine fg_RX12_8 E hW rh0 dX12_tells_134 (fun a90 m91 r92 => ?_)
      obtain rfl : pR = a90 := (((fm_R g89 rh0 rfl).trans ((fm_R g22 rh0 rfl).trans ((fm_R g16 rh0 rfl).trans ((fm_R g8 rh0 rfl).trans ((fm_R g4 rh0 rfl).trans mR)))))).symm.trans m91
      refine lv_iload_n hx hb dX12_tells_137 rfl (lv_at hl 1 rfl) ?_
      refine lv_iconst (v := 3) hx hb dX12_tells_138 (by decide) ?_
      refine q_iadd (Y := 3) hx hb dX12_tells_139 rfl rfl (by omega) (fun x93 h94 => ?_)
      refine gl_822 E hW rR ⟨by omega, by omega⟩ dX12_tells_140 (fun y95 m96 b97 => ?_)
      have b98 := rr_fhol (show RowInv _ from b97) m96 (by omega)
      refine lv_iconst (v := (-1)) hx hb dX12_tells_141 (by decide) ?_
      have J111 : ∀ (f106 : Nat → va_E) (y109 : Int32) (m107 : oI (f106 h0) 0 = 0) (m108 : oR (f106 h0) 2 = pR) (b110 : (0 : Int) ≤ y109.toInt ∧ y109.toInt ≤ 1) (H : Heap) (locs : List Loc) (ls : Array Slot), WS G cI cJ cZ cD cR cT A kp L f106 s H locs → FM kp L ms_X12_tells f0 f106 → lv_has ls 5 [(4, .int x23), (3, .int x17), (0, .ref h0), (1, .int u1), (2, .int u2)] → W p l e ({ frames := 6, cells := 0, slots := 0, locals := 163 }) s m ([.ref h0, .int u1, .int u2] : List Value).toArray below meth c H locs 0 0 (MQ below (QT (po_X12_tells kp L f0 h0 u1 u2) G cI cJ cZ cD cR cT A kp L) ([.ref h0, .int u1, .int u2] : List Value).toArray s 0 0 A) (F0 m 158 ls [.int y109]) := by
        intro f106 y109 m107 m108 b110 H locs ls hW hF hl
        clear c11 b98
        exact e_I E hW rfl ⟨⟨_, rfl, trivial⟩, hF⟩ dX12_tells_158
      refine q_icmp_eq (Y := -1) (tgt := 157) hx hb dX12_tells_142 (by decide) rfl rfl (fun c112 => ?_) (fun c112 => ?_)
      · refine lv_iconst (v := 0) hx hb dX12_tells_157 (by decide) ?_
        exact J111 f87 0 ((fm_I g89 rh0 rfl).trans ((fm_I g22 rh0 rfl).trans ((fm_I g16 rh0 rfl).trans ((fm_I g8 rh0 rfl).trans e2)))) m91 (by decide) _ _ _ hW hF (lv_sub hl [0, 1, 2, 3, 4] rfl)
      · refine lv_aload_n hx hb dX12_tells_145 rfl (lv_at hl 2 rfl) ?_
        refine lv_iload_n hx hb dX12_tells_146 rfl (lv_at hl 3 rfl) ?_
        refine t_callV (As := [.int u1]) (rest := []) E hW (c_X12_keepsField l G cI cJ cZ cD cR cT kp L f87 hW.2.2.2 _ h0 u1 rh0 (by omega) (by rw [m91]; exact (by rw [fm_A hF rR (by decide) rfl]; exact hTX))) rh0 (by decide) rfl wk_X12_keepsField tw_1703 rfl ⟨Nat.le_of_ble_eq_true rfl, Nat.le_of_ble_eq_true rfl⟩ ⟨rfl, rfl⟩ hl.1 rfl (Nat.le_of_ble_eq_true rfl) dX12_tells_147 ⟨Nat.le_of_ble_eq_true rfl, Nat.le_of_ble_eq_true rfl⟩ (fun v113 f114 H locs q115 hW => ?_)
        obtain ⟨⟨x117, rfl, p118⟩, g116⟩ := q115
        have hF := FM.tr hF g116 rfl
        refine q_if_eq (tgt := 157) hx hb dX12_tells_150 (by decide) rfl (fun c119 => ?_) (fun c119 => ?_)
        · refine lv_iconst (v := 0) hx hb dX12_tells_157 (by decide) ?_
          exact J111 f114 0 ((fm_I g116 rh0 rfl).trans ((fm_I g89 rh0 rfl).trans ((fm_I g22 rh0 rfl).trans ((fm_I g16 rh0 rfl).trans ((fm_I g8 rh0 rfl).trans e2))))) ((fm_R g116 rh0 rfl).trans m91) (by decide) _ _ _ hW hF (lv_sub hl [0, 1, 2, 3, 4] rfl)
        · refine lv_iconst (v := 1) hx hb dX12_tells_153 (by decide) ?_
          refine lv_goto (tgt := 158) hx hb dX12_tells_154 (by decide) ?_
          exact J111 f114 1 ((fm_I g116 rh0 rfl).trans ((fm_I g89 rh0 rfl).trans ((fm_I g22 rh0 rfl).trans ((fm_I g16 rh0 rfl).trans ((fm_I g8 rh0 rfl).trans e2))))) ((fm_R g116 rh0 rfl).trans m91) (by decide) _ _ _ hW hF (lv_sub hl [0, 1, 2, 3, 4] rfl)
    by_cases c120 : u2.toInt = 5
    · refine lv_tableIn (tgt := 159) hx hb dX12_tells_28 (by omega) (by omega) (by rw [c120]; rfl) (by decide) ?_
      refine lv_iload hx hb dX12_tells_159 (lv_at hl 0 rfl) ?_
      refine lv_iconst (v := (-1)) hx hb dX12_tells_161 (by decide) ?_
      have J134 : ∀ (y133 : Int32) (H : Heap) (locs : List Loc) (ls : Array Slot), WS G cI cJ cZ cD cR cT A kp L f20 s H locs → FM kp L ms_X12_tells f0 f20 → lv_has ls 5 [(4, .int x23), (3, .int x17), (0, .ref h0), (1, .int u1), (2, .int u2)] → W p l e ({ frames := 6, cells := 0, slots := 0, locals := 163 }) s m ([.ref h0, .int u1, .int u2] : List Value).toArray below meth c H locs 0 0 (MQ below (QT (po_X12_tells kp L f0 h0 u1 u2) G cI cJ cZ cD cR cT A kp L) ([.ref h0, .int u1, .int u2] : List Value).toArray s 0 0 A) (F0 m 185 ls [.int y133]) := by
        intro y133 H locs ls hW hF hl
        clear c11
        exact e_I E hW rfl ⟨⟨_, rfl, trivial⟩, hF⟩ dX12_tells_185
      refine q_icmp_ne (Y := -1) (tgt := 169) hx hb dX12_tells_162 (by decide) rfl rfl (fun c135 => ?_) (fun c135 => ?_)
      · refine lv_aload_n hx hb dX12_tells_169 rfl (lv_at hl 2 rfl) ?_
        refine fg_RX12_8 E hW rh0 dX12_tells_170 (fun a136 m137 r138 => ?_)
        obtain rfl : pR = a136 := (((fm_R g22 rh0 rfl).trans ((fm_R g16 rh0 rfl).trans ((fm_R g8 rh0 rfl).trans ((fm_R g4 rh0 rfl).trans mR))))).symm.trans m137
        refine lv_sipush (v := 684) hx hb dX12_tells_173 (by decide) ?_
        refine lv_bipush (v := 6) hx hb dX12_tells_176 (by decide) ?_
        refine lv_iload hx hb dX12_tells_178 (lv_at hl 0 rfl) ?_
        refine q_imul (X := 6) hx hb dX12_tells_180 rfl rfl (by omega) (fun x139 h140 => ?_)
        refine q_iadd (X := 684) hx hb dX12_tells_181 rfl rfl (by omega) (fun x141 h142 => ?_)
        refine lv_iconst (v := 2) hx hb dX12_tells_182 (by decide) ?_
        refine q_iadd (Y := 2) hx hb dX12_tells_183 rfl rfl (by omega) (fun x143 h144 => ?_)
        refine gl_822 E hW rR ⟨by omega, by omega⟩ dX12_tells_184 (fun y145 m146 b147 => ?_)
        exact J134 y145  _ _ _ hW hF (lv_sub hl [0, 1, 2, 3, 4] rfl)
      · refine lv_iconst (v := (-1)) hx hb dX12_tells_165 (by decide) ?_
        refine lv_goto (tgt := 185) hx hb dX12_tells_166 (by decide) ?_
        exact J134 (-1)  _ _ _ hW hF (lv_sub hl [0, 1, 2, 3, 4] rfl)
    by_cases c148 : u2.toInt = 6
    · refine lv_tableIn (tgt := 186) hx hb dX12_tells_28 (by omega) (by omega) (by rw [c148]; rfl) (by decide) ?_
      refine lv_iload hx hb dX12_tells_186 (lv_at hl 0 rfl) ?_
      refine lv_iconst (v := (-1)) hx hb dX12_tells_188 (by decide) ?_
      have J162 : ∀ (y161 : Int32) (H : Heap) (locs : List Loc) (ls : Array Slot), WS G cI cJ cZ cD cR cT A kp L f20 s H locs → FM kp L ms_X12_tells f0 f20 → lv_has ls 5 [(4, .int x23), (3, .int x17), (0, .ref h0), (1, .int u1), (2, .int u2)] → W p l e ({ frames := 6, cells := 0, slots := 0, locals := 163 }) s m ([.ref h0, .int u1, .int u2] : List Value).toArray below meth c H locs 0 0 (MQ below (QT (po_X12_tells kp L f0 h0 u1 u2) G cI cJ cZ cD cR cT A kp L) ([.ref h0, .int u1, .int u2] : List Value).toArray s 0 0 A) (F0 m 212 ls [.int y161]) := by
        intro y161 H locs ls hW hF hl
        clear c11
        exact e_I E hW rfl ⟨⟨_, rfl, trivial⟩, hF⟩ dX12_tells_212
      refine q_icmp_ne (Y := -1) (tgt := 196) hx hb dX12_tells_189 (by decide) rfl rfl (fun c163 => ?_) (fun c163 => ?_)
      · refine lv_aload_n hx hb dX12_tells_196 rfl (lv_at hl 2 rfl) ?_
        refine fg_RX12_8 E hW rh0 dX12_tells_197 (fun a164 m165 r166 => ?_)
        obtain rfl : pR = a164 := (((fm_R g22 rh0 rfl).trans ((fm_R g16 rh0 rfl).trans ((fm_R g8 rh0 rfl).trans ((fm_R g4 rh0 rfl).trans mR))))).symm.trans m165
        refine lv_sipush (v := 684) hx hb dX12_tells_200 (by decide) ?_
        refine lv_bipush (v := 6) hx hb dX12_tells_203 (by decide) ?_
        refine lv_iload hx hb dX12_tells_205 (lv_at hl 0 rfl) ?_
        refine q_imul (X := 6) hx hb dX12_tells_207 rfl rfl (by omega) (fun x167 h168 => ?_)
        refine q_iadd (X := 684) hx hb dX12_tells_208 rfl rfl (by omega) (fun x169 h170 => ?_)
        refine lv_iconst (v := 3) hx hb dX12_tells_209 (by decide) ?_
        refine q_iadd (Y := 3) hx hb dX12_tells_210 rfl rfl (by omega) (fun x171 h172 => ?_)
        refine gl_822 E hW rR ⟨by omega, by omega⟩ dX12_tells_211 (fun y173 m174 b175 => ?_)
        exact J162 y173  _ _ _ hW hF (lv_sub hl [0, 1, 2, 3, 4] rfl)
      · refine lv_iconst (v := (-1)) hx hb dX12_tells_192 (by decide) ?_
        refine lv_goto (tgt := 212) hx hb dX12_tells_193 (by decide) ?_
        exact J162 (-1)  _ _ _ hW hF (lv_sub hl [0, 1, 2, 3, 4] rfl)
    by_cases c176 : u2.toInt = 7
    · refine lv_tableIn (tgt := 213) hx hb dX12_tells_28 (by omega) (by omega) (by rw [c176]; rfl) (by decide) ?_
      refine lv_aload_n hx hb dX12_tells_213 rfl (lv_at hl 2 rfl) ?_
      refine fg_RX12_8 E hW rh0 dX12_tells_214 (fun a177 m178 r179 => ?_)
      obtain rfl : pR = a177 := (((fm_R g22 rh0 rfl).trans ((fm_R g16 rh0 rfl).trans ((fm_R g8 rh0 rfl).trans ((fm_R g4 rh0 rfl).trans mR))))).symm.trans m178
      refine lv_iload_n hx hb dX12_tells_217 rfl (lv_at hl 1 rfl) ?_
      refine lv_bipush (v := 6) hx hb dX12_tells_218 (by decide) ?_
      refine q_iadd (Y := 6) hx hb dX12_tells_220 rfl rfl (by omega) (fun x180 h181 => ?_)
      refine gl_822 E hW rR ⟨by omega, by omega⟩ dX12_tells_221 (fun y182 m183 b184 => ?_)
      exact e_I E hW rfl ⟨⟨_, rfl, trivial⟩, hF⟩ dX12_tells_222
    refine lv_tableOut (tgt := 223) hx hb dX12_tells_28 (by omega) (by decide) ?_
    refine lv_iconst (v := (-1)) hx hb dX12_tells_223 (by decide) ?_
    exact e_I E hW rfl ⟨⟨_, rfl, trivial⟩, hF⟩ dX12_tells_224
  · clear p10
    refine lv_iconst (v := (-1)) hx hb dX12_tells_13 (by decide) ?_
    exact e_I E hW rfl ⟨⟨_, rfl, trivial⟩, hF⟩ dX12_tells_14
def rw_X12_take : List (Nat × Nat) := [(27, 339), (367, 681)]
def ms_X12_take : List (Nat × Nat) := [(12, 0), (12, 1), (12, 33), (12, 34), (12, 35), (12, 36), (12, 37), (822, 0), (849, 0), (850, 0), (851, 0), (852, 0)]
def po_X12_take (kp : Nat → Nat) (L : List Nat) (f0 : Nat → va_E) (h0 : Nat) (u1 : Int32) (u2 : Int32) (u3 : Int32) : Option Value → (Nat → va_E) → Prop := fun v f => (∃ r : Int32, v = some (.int r) ∧ (True)) ∧ FM kp L ms_X12_take f0 f ∧ (RF rw_X12_take f0 f h0)
set_option maxHeartbeats 4000000 in
set_option maxRecDepth 100000 in
theorem c_X12_take (l : Launch) (G : va_G) (cI cJ cZ cD cR cT : ClassId) (kp : Nat → Nat) (L : List Nat) (f0 : Nat → va_E) (hTH : TH cI cJ cZ cD cR cT kp L f0) (sz : Nat) (h0 : Nat) (u1 : Int32) (u2 : Int32) (u3 : Int32) (rh0 : RK kp L h0 12) (hTX : TX (aI (f0 (oR (f0 h0) 2)))) : Met l yX12_take (Cond.code yX12_take cX12_take 6 (some .int) :: wTab) ({ frames := 5, cells := 0, slots := 0, locals := 141 }) (va_Pc [.ref h0, .int u1, .int u2, .int u3] (PreW G (tys6 cI cJ cZ cD cR cT) (va_pl L f0) sz)) (QT (po_X12_take kp L f0 h0 u1 u2 u3) G cI cJ cZ cD cR cT (va_A (va_pl L f0) sz) kp L) 0 0 (va_A (va_pl L f0) sz) := by
  refine metT (by decide) (Nat.le_of_ble_eq_true rfl) hTH ?_
  intro p e s m below meth c A ls E hW hl
  obtain ⟨hx, hb, -, hml, hown, hts, -, -, -⟩ := id E
  have hF : FM kp L ms_X12_take f0 f0 := FM.rf
  have hl : lv_has ls 6 [(0, .ref h0), (1, .int u1), (2, .int u2), (3, .int u3)] := hl
  obtain ⟨pR, mR⟩ : ∃ x : Nat, oR (f0 h0) 2 = x := ⟨_, rfl⟩
  have rR : RK kp L pR 822 := by rw [← mR]; exact th_ref hTH rh0 (by decide) (by decide) rfl
  rw [mR] at hTX
  refine lv_aload_n hx hb dX12_take_0 rfl (lv_at hl 0 rfl) ?_
  refine lv_iconst (v := 0) hx hb dX12_take_1 (by decide) ?_
  refine fp_RX12_82 E hW rh0 dX12_take_2 (fun f1 H locs e2 n3 g4 hW => ?_)
  have z5 : RF rw_X12_take f0 f1 h0 := rf_fm hTH rf_rf g4 rh0 rfl
  have hF := FM.tr hF g4 rfl
  refine lv_iload_n hx hb dX12_take_5 rfl (lv_at hl 3 rfl) ?_
  refine q_i2l hx hb dX12_take_6 rfl (fun x6 h7 => ?_)
  have hb8 : -2147483648 ≤ x6.toInt ∧ x6.toInt ≤ 2147483647 := by have := i32_b u3; omega
  refine lv_lconst (v := 0) hx hb dX12_take_7 (by decide) ?_
  refine lv_lconst (v := 1) hx hb dX12_take_8 (by decide) ?_
  refine t_callS (As := [.long x6, .long 0, .long 1]) (rest := []) E hW (c_X12_in l G cI cJ cZ cD cR cT kp L f1 hW.2.2.2 _ x6 0 1) wk_X12_in tw_1554 rfl ⟨Nat.le_of_ble_eq_true rfl, Nat.le_of_ble_eq_true rfl⟩ ⟨rfl, rfl⟩ hl.1 rfl (Nat.le_of_ble_eq_true rfl) dX12_take_9 ⟨Nat.le_of_ble_eq_true rfl, Nat.le_of_ble_eq_true rfl⟩ (fun v9 f10 H locs q11 hW => ?_)
  obtain ⟨⟨x13, rfl, p14⟩, g12⟩ := q11
  have p14 : (x13.toInt = 1 ∧ 0 ≤ x6.toInt ∧ x6.toInt ≤ 1) ∨ (x13.toInt = 0 ∧ (x6.toInt < 0 ∨ 1 < x6.toInt)) := p14
  have z15 : RF rw_X12_take f0 f10 h0 := rf_fm hTH z5 g12 rh0 rfl
  have hF := FM.tr hF g12 rfl
  refine q_if_ne (tgt := 21) hx hb dX12_take_12 (by decide) rfl (fun c16 => ?_) (fun c16 => ?_)
  · have q17 : 0 ≤ x6.toInt ∧ x6.toInt ≤ 1 := by omega
    clear p14
    refine lv_aload_n hx hb dX12_take_21 rfl (lv_at hl 0 rfl) ?_
    refine lv_iload_n hx hb dX12_take_22 rfl (lv_at hl 1 rfl) ?_
    refine t_callV (As := [.int u1]) (rest := []) E hW (c_X12_isPerson l G cI cJ cZ cD cR cT kp L f10 hW.2.2.2 _ h0 u1 rh0) rh0 (by decide) rfl wk_X12_isPerson tw_1583 rfl ⟨Nat.le_of_ble_eq_true rfl, Nat.le_of_ble_eq_true rfl⟩ ⟨rfl, rfl⟩ hl.1 rfl (Nat.le_of_ble_eq_true rfl) dX12_take_23 ⟨Nat.le_of_ble_eq_true rfl, Nat.le_of_ble_eq_true rfl⟩ (fun v18 f19 H locs q20 hW => ?_)
    obtain ⟨⟨x22, rfl, p23⟩, g21⟩ := q20
    have z24 : RF rw_X12_take f0 f19 h0 := rf_fm hTH z15 g21 rh0 rfl
    have hF := FM.tr hF g21 rfl
    refine q_if_eq (tgt := 37) hx hb dX12_take_26 (by decide) rfl (fun c25 => ?_) (fun c25 => ?_)
    · clear p23
      refine lv_aload_n hx hb dX12_take_37 rfl (lv_at hl 0 rfl) ?_
      refine lv_bipush (v := (-2)) hx hb dX12_take_38 (by decide) ?_
      refine t_callV (As := [.int (-2)]) (rest := []) E hW (c_X12_told l G cI cJ cZ cD cR cT kp L f19 hW.2.2.2 _ h0 (-2) rh0) rh0 (by decide) rfl wk_X12_told tw_1557 rfl ⟨Nat.le_of_ble_eq_true rfl, Nat.le_of_ble_eq_true rfl⟩ ⟨rfl, rfl⟩ hl.1 rfl (Nat.le_of_ble_eq_true rfl) dX12_take_40 ⟨Nat.le_of_ble_eq_true rfl, Nat.le_of_ble_eq_true rfl⟩ (fun v26 f27 H locs q28 hW => ?_)
      obtain ⟨⟨x30, rfl, p31⟩, g29⟩ := q28
      clear p31
      have z32 : RF rw_X12_take f0 f27 h0 := rf_fm hTH z24 g29 rh0 rfl
      have hF := FM.tr hF g29 rfl
      exact e_I E hW rfl ⟨⟨_, rfl, trivial⟩, hF, z32⟩ dX12_take_43
    · have q33 : 0 ≤ u1.toInt ∧ u1.toInt ≤ 39 := by omega
      clear p23
      refine lv_aload_n hx hb dX12_take_29 rfl (lv_at hl 0 rfl) ?_
      refine lv_iload_n hx hb dX12_take_30 rfl (lv_at hl 2 rfl) ?_
      refine t_callV (As := [.int u2]) (rest := []) E hW (c_X12_isField l G cI cJ cZ cD cR cT kp L f19 hW.2.2.2 _ h0 u2 rh0) rh0 (by decide) rfl wk_X12_isField tw_1639 rfl ⟨Nat.le_of_ble_eq_true rfl, Nat.le_of_ble_eq_true rfl⟩ ⟨rfl, rfl⟩ hl.1 rfl (Nat.le_of_ble_eq_true rfl) dX12_take_31 ⟨Nat.le_of_ble_eq_true rfl, Nat.le_of_ble_eq_true rfl⟩ (fun v34 f35 H locs q36 hW => ?_)
      obtain ⟨⟨x38, rfl, p39⟩, g37⟩ := q36
      have z40 : RF rw_X12_take f0 f35 h0 := rf_fm hTH z24 g37 rh0 rfl
      have hF := FM.tr hF g37 rfl
      refine q_if_ne (tgt := 44) hx hb dX12_take_34 (by decide) rfl (fun c41 => ?_) (fun c41 => ?_)
      · have q42 : 0 ≤ u2.toInt ∧ u2.toInt ≤ 39 := by omega
        clear p39
        refine lv_iload_n hx hb dX12_take_44 rfl (lv_at hl 2 rfl) ?_
        refine t_callS (As := [.int u2]) (rest := []) E hW (c_X12_fieldAt l G cI cJ cZ cD cR cT kp L f35 hW.2.2.2 _ u2 (by omega)) wk_X12_fieldAt tw_1624 rfl ⟨Nat.le_of_ble_eq_true rfl, Nat.le_of_ble_eq_true rfl⟩ ⟨rfl, rfl⟩ hl.1 rfl (Nat.le_of_ble_eq_true rfl) dX12_take_45 ⟨Nat.le_of_ble_eq_true rfl, Nat.le_of_ble_eq_true rfl⟩ (fun v43 f44 H locs q45 hW => ?_)
        obtain ⟨⟨x47, rfl, p48⟩, g46⟩ := q45
        have z49 : RF rw_X12_take f0 f44 h0 := rf_fm hTH z40 g46 rh0 rfl
        have hF := FM.tr hF g46 rfl
        refine lv_istore (lv' := [(4, .int x47), (0, .ref h0), (1, .int u1), (2, .int u2), (3, .int u3)]) hx hb dX12_take_48 hl (by decide) rfl (fun ls hl => ?_)
        refine lv_aload_n hx hb dX12_take_50 rfl (lv_at hl 1 rfl) ?_
        refine t_callV (As := []) (rest := []) E hW (c_X12_forceNow l G cI cJ cZ cD cR cT kp L f44 hW.2.2.2 _ h0 rh0 (by rw [((fm_R g46 rh0 rfl).trans ((fm_R g37 rh0 rfl).trans ((fm_R g21 rh0 rfl).trans ((fm_R g12 rh0 rfl).trans ((fm_R g4 rh0 rfl).trans mR)))))]; exact (tx_rf hTX z49 mR rfl rfl))) rh0 (by decide) rfl wk_X12_forceNow tw_1647 rfl ⟨Nat.le_of_ble_eq_true rfl, Nat.le_of_ble_eq_true rfl⟩ ⟨rfl, rfl⟩ hl.1 rfl (Nat.le_of_ble_eq_true rfl) dX12_take_51 ⟨Nat.le_of_ble_eq_true rfl, Nat.le_of_ble_eq_true rfl⟩ (fun v50 f51 H locs q52 hW => ?_)
        obtain ⟨rfl, g53⟩ := q52
        have z54 : RF rw_X12_take f0 f51 h0 := rf_fm hTH z49 g53 rh0 rfl
        have hF := FM.tr hF g53 rfl
        refine lv_aload_n hx hb dX12_take_54 rfl (lv_at hl 1 rfl) ?_
        refine fg_RX12_8 E hW rh0 dX12_take_55 (fun a55 m56 r57 => ?_)
        obtain rfl : pR = a55 := (((fm_R g53 rh0 rfl).trans ((fm_R g46 rh0 rfl).trans ((fm_R g37 rh0 rfl).trans ((fm_R g21 rh0 rfl).trans ((fm_R g12 rh0 rfl).trans ((fm_R g4 rh0 rfl).trans mR))))))).symm.trans m56
        refine lv_iload_n hx hb dX12_take_58 rfl (lv_at hl 2 rfl) ?_
        refine t_callS (As := [.int u1]) (rest := [.ref pR]) E hW (c_X12_personAt l G cI cJ cZ cD cR cT kp L f51 hW.2.2.2 _ u1 (by omega)) wk_X12_personAt tw_1572 rfl ⟨Nat.le_of_ble_eq_true rfl, Nat.le_of_ble_eq_true rfl⟩ ⟨rfl, rfl⟩ hl.1 rfl (Nat.le_of_ble_eq_true rfl) dX12_take_59 ⟨Nat.le_of_ble_eq_true rfl, Nat.le_of_ble_eq_true rfl⟩ (fun v58 f59 H locs q60 hW => ?_)
        obtain ⟨⟨x62, rfl, p63⟩, g61⟩ := q60
        have z64 : RF rw_X12_take f0 f59 h0 := rf_fm hTH z54 g61 rh0 rfl
        have hF := FM.tr hF g61 rfl
        refine lv_iconst (v := 5) hx hb dX12_take_62 (by decide) ?_
        refine q_iadd (Y := 5) hx hb dX12_take_63 rfl rfl (by omega) (fun x65 h66 => ?_)
        refine gl_822 E hW rR ⟨by omega, by omega⟩ dX12_take_64 (fun y67 m68 b69 => ?_)
        have J93 : ∀ (y91 : Int32) (b92 : (0 : Int) ≤ y91.toInt ∧ y91.toInt ≤ 1) (H : Heap) (locs : List Loc) (ls : Array Slot), WS G cI cJ cZ cD cR cT A kp L f59 s H locs → FM kp L ms_X12_take f0 f59 → lv_has ls 6 [(4, .int x47), (0, .ref h0), (1, .int u1), (2, .int u2), (3, .int u3)] → W p l e ({ frames := 5, cells := 0, slots := 0, locals := 141 }) s m ([.ref h0, .int u1, .int u2, .int u3] : List Value).toArray below meth c H locs 0 0 (MQ below (QT (po_X12_take kp L f0 h0 u1 u2 u3) G cI cJ cZ cD cR cT A kp L) ([.ref h0, .int u1, .int u2, .int u3] : List Value).toArray s 0 0 A) (F0 m 102 ls [.int y91]) := by
          intro y91 b92 H locs ls hW hF hl
          clear c16 c25 c41
          refine lv_istore (lv' := [(5, .int y91), (4, .int x47), (0, .ref h0), (1, .int u1), (2, .int u2), (3, .int u3)]) hx hb dX12_take_102 hl (by decide) rfl (fun ls hl => ?_)
          refine lv_iload hx hb dX12_take_104 (lv_at hl 0 rfl) ?_
          refine q_if_eq (tgt := 124) hx hb dX12_take_106 (by decide) rfl (fun c94 => ?_) (fun c94 => ?_)
          · refine lv_aload_n hx hb dX12_take_124 rfl (lv_at hl 2 rfl) ?_
            refine lv_bipush (v := (-3)) hx hb dX12_take_125 (by decide) ?_
            refine t_callV (As := [.int (-3)]) (rest := []) E hW (c_X12_told l G cI cJ cZ cD cR cT kp L f59 hW.2.2.2 _ h0 (-3) rh0) rh0 (by decide) rfl wk_X12_told tw_1557 rfl ⟨Nat.le_of_ble_eq_true rfl, Nat.le_of_ble_eq_true rfl⟩ ⟨rfl, rfl⟩ hl.1 rfl (Nat.le_of_ble_eq_true rfl) dX12_take_127 ⟨Nat.le_of_ble_eq_true rfl, Nat.le_of_ble_eq_true rfl⟩ (fun v95 f96 H locs q97 hW => ?_)
            obtain ⟨⟨x99, rfl, p100⟩, g98⟩ := q97
            clear p100
            have m101 : oI (f96 h0) 0 = 0 := ((fm_I g98 rh0 rfl).trans ((fm_I g61 rh0 rfl).trans ((fm_I g53 rh0 rfl).trans ((fm_I g46 rh0 rfl).trans ((fm_I g37 rh0 rfl).trans ((fm_I g21 rh0 rfl).trans ((fm_I g12 rh0 rfl).trans e2)))))))
            have z102 : RF rw_X12_take f0 f96 h0 := rf_fm hTH z64 g98 rh0 rfl
            have hF := FM.tr hF g98 rfl
            exact e_I E hW rfl ⟨⟨_, rfl, trivial⟩, hF, z102⟩ dX12_take_130
          · refine lv_iload_n hx hb dX12_take_109 rfl (lv_at hl 5 rfl) ?_
            refine q_if_ne (tgt := 131) hx hb dX12_take_110 (by decide) rfl (fun c103 => ?_) (fun c103 => ?_)
            · refine lv_aload_n hx hb dX12_take_131 rfl (lv_at hl 2 rfl) ?_
              refine fg_RX12_8 E hW rh0 dX12_take_132 (fun a104 m105 r106 => ?_)
              obtain rfl : pR = a104 := (((fm_R g61 rh0 rfl).trans m56)).symm.trans m105
              refine lv_iload hx hb dX12_take_135 (lv_at hl 1 rfl) ?_
              refine lv_iconst (v := 3) hx hb dX12_take_137 (by decide) ?_
              refine q_iadd (Y := 3) hx hb dX12_take_138 rfl rfl (by omega) (fun x107 h108 => ?_)
              refine lv_iload_n hx hb dX12_take_139 rfl (lv_at hl 3 rfl) ?_
              refine gs_822 E hW rR ⟨by omega, by omega⟩ (fun hc => rr_up hc (by omega) (by omega) (by unfold rbI; omega)) dX12_take_140 (fun f109 H locs e110 n111 g112 hW => ?_)
              have m113 : oI (f109 h0) 0 = 0 := ((fm_I g112 rh0 rfl).trans ((fm_I g61 rh0 rfl).trans ((fm_I g53 rh0 rfl).trans ((fm_I g46 rh0 rfl).trans ((fm_I g37 rh0 rfl).trans ((fm_I g21 rh0 rfl).trans ((fm_I g12 rh0 rfl).trans e2)))))))
              have z114 : RF rw_X12_take f0 f109 h0 := rf_st (lo := 367) (hi := 679) z64 mR e110 (by omega) rfl
              have hF := FM.tr hF g112 rfl
              refine lv_aload_n hx hb dX12_take_141 rfl (lv_at hl 2 rfl) ?_
              refine fg_RX12_8 E hW rh0 dX12_take_142 (fun a115 m116 r117 => ?_)
              obtain rfl : pR = a115 := (((fm_R g112 rh0 rfl).trans m105)).symm.trans m116
              refine lv_iload hx hb dX12_take_145 (lv_at hl 1 rfl) ?_
              refine lv_iconst (v := 5) hx hb dX12_take_147 (by decide) ?_
              refine q_iadd (Y := 5) hx hb dX12_take_148 rfl rfl (by omega) (fun x118 h119 => ?_)
              refine lv_iconst (v := 1) hx hb dX12_take_149 (by decide) ?_
              refine lv_iload_n hx hb dX12_take_150 rfl (lv_at hl 5 rfl) ?_
              refine q_isub (X := 1) hx hb dX12_take_151 rfl rfl (by omega) (fun x120 h121 => ?_)
              refine gs_822 E hW rR ⟨by omega, by omega⟩ (fun hc => rr_up hc (by omega) (by omega) (by unfold rbI; omega)) dX12_take_152 (fun f122 H locs e123 n124 g125 hW => ?_)
              have z126 : RF rw_X12_take f0 f122 h0 := rf_st (lo := 369) (hi := 681) z114 mR e123 (by omega) rfl
              have hF := FM.tr hF g125 rfl
              refine lv_aload_n hx hb dX12_take_153 rfl (lv_at hl 2 rfl) ?_
              refine fg_RX12_8 E hW rh0 dX12_take_154 (fun a127 m128 r129 => ?_)
              obtain rfl : pR = a127 := (((fm_R g125 rh0 rfl).trans m116)).symm.trans m128
              refine lv_iload_n hx hb dX12_take_157 rfl (lv_at hl 3 rfl) ?_
              refine t_callS (As := [.int u1]) (rest := [.ref pR]) E hW (c_X12_personAt l G cI cJ cZ cD cR cT kp L f122 hW.2.2.2 _ u1 (by omega)) wk_X12_personAt tw_1572 rfl ⟨Nat.le_of_ble_eq_true rfl, Nat.le_of_ble_eq_true rfl⟩ ⟨rfl, rfl⟩ hl.1 rfl (Nat.le_of_ble_eq_true rfl) dX12_take_158 ⟨Nat.le_of_ble_eq_true rfl, Nat.le_of_ble_eq_true rfl⟩ (fun v130 f131 H locs q132 hW => ?_)
              obtain ⟨⟨x134, rfl, p135⟩, g133⟩ := q132
              have m136 : aI (f131 pR) (x65 : Int32).toNatClampNeg = y67 := ((congrArg (fun z => aI z (x65 : Int32).toNatClampNeg) (fm_A g133 rR (by decide) rfl)).trans (show aI (f122 pR) (x65 : Int32).toNatClampNeg = y67 from by rw [e123, up_n (tn_ne (by omega) (by omega) (by omega))]; exact (show aI (f109 pR) (x65 : Int32).toNatClampNeg = y67 from by rw [e110, up_n (tn_ne (by omega) (by omega) (by omega))]; exact m68)))
              have m137 : aI (f131 pR) (x107 : Int32).toNatClampNeg = u1 := ((congrArg (fun z => aI z (x107 : Int32).toNatClampNeg) (fm_A g133 rR (by decide) rfl)).trans (show aI (f122 pR) (x107 : Int32).toNatClampNeg = u1 from by rw [e123, up_n (tn_ne (by omega) (by omega) (by omega))]; exact (show aI (f109 pR) (x107 : Int32).toNatClampNeg = u1 from by rw [e110]; exact up_s)))
              have m138 : aI (f131 pR) (x118 : Int32).toNatClampNeg = x120 := ((congrArg (fun z => aI z (x118 : Int32).toNatClampNeg) (fm_A g133 rR (by decide) rfl)).trans (show aI (f122 pR) (x118 : Int32).toNatClampNeg = x120 from by rw [e123]; exact up_s))
              have z139 : RF rw_X12_take f0 f131 h0 := rf_fm hTH z126 g133 rh0 rfl
              have hF := FM.tr hF g133 rfl
              refine lv_bipush (v := 7) hx hb dX12_take_161 (by decide) ?_
              refine q_iadd (Y := 7) hx hb dX12_take_163 rfl rfl (by omega) (fun x140 h141 => ?_)
              refine lv_iconst (v := (-1)) hx hb dX12_take_164 (by decide) ?_
              have hk142 : ((-1) : Int32).toInt = -1 := rfl
              refine gs_822 E hW rR ⟨by omega, by omega⟩ (fun hc => rr_up hc (by omega) (by omega) (by unfold rbI; omega)) dX12_take_165 (fun f143 H locs e144 n145 g146 hW => ?_)
              have z147 : RF rw_X12_take f0 f143 h0 := rf_st (lo := 27) (hi := 339) z139 mR e144 (by omega) rfl
              have hF := FM.tr hF g146 rfl
              refine lv_aload_n hx hb dX12_take_166 rfl (lv_at hl 2 rfl) ?_
              refine lv_iconst (v := 0) hx hb dX12_take_167 (by decide) ?_
              refine t_callV (As := [.int 0]) (rest := []) E hW (c_X12_told l G cI cJ cZ cD cR cT kp L f143 hW.2.2.2 _ h0 0 rh0) rh0 (by decide) rfl wk_X12_told tw_1557 rfl ⟨Nat.le_of_ble_eq_true rfl, Nat.le_of_ble_eq_true rfl⟩ ⟨rfl, rfl⟩ hl.1 rfl (Nat.le_of_ble_eq_true rfl) dX12_take_168 ⟨Nat.le_of_ble_eq_true rfl, Nat.le_of_ble_eq_true rfl⟩ (fun v148 f149 H locs q150 hW => ?_)
              obtain ⟨⟨x152, rfl, p153⟩, g151⟩ := q150
              clear p153
              have m154 : aI (f149 pR) (x65 : Int32).toNatClampNeg = y67 := ((congrArg (fun z => aI z (x65 : Int32).toNatClampNeg) (fm_A g151 rR (by decide) rfl)).trans (show aI (f143 pR) (x65 : Int32).toNatClampNeg = y67 from by rw [e144, up_n (tn_ne (by omega) (by omega) (by omega))]; exact m136))
              have m155 : aI (f149 pR) (x107 : Int32).toNatClampNeg = u1 := ((congrArg (fun z => aI z (x107 : Int32).toNatClampNeg) (fm_A g151 rR (by decide) rfl)).trans (show aI (f143 pR) (x107 : Int32).toNatClampNeg = u1 from by rw [e144, up_n (tn_ne (by omega) (by omega) (by omega))]; exact m137))
              have m156 : aI (f149 pR) (x118 : Int32).toNatClampNeg = x120 := ((congrArg (fun z => aI z (x118 : Int32).toNatClampNeg) (fm_A g151 rR (by decide) rfl)).trans (show aI (f143 pR) (x118 : Int32).toNatClampNeg = x120 from by rw [e144, up_n (tn_ne (by omega) (by omega) (by omega))]; exact m138))
              have m157 : aI (f149 pR) (x140 : Int32).toNatClampNeg = (-1) := ((congrArg (fun z => aI z (x140 : Int32).toNatClampNeg) (fm_A g151 rR (by decide) rfl)).trans (show aI (f143 pR) (x140 : Int32).toNatClampNeg = (-1) from by rw [e144]; exact up_s))
              have z158 : RF rw_X12_take f0 f149 h0 := rf_fm hTH z147 g151 rh0 rfl
              have hF := FM.tr hF g151 rfl
              exact e_I E hW rfl ⟨⟨_, rfl, trivial⟩, hF, z158⟩ dX12_take_171
            · refine lv_aload_n hx hb dX12_take_113 rfl (lv_at hl 2 rfl) ?_
              refine lv_bipush (v := 6) hx hb dX12_take_114 (by decide) ?_
              refine lv_iload_n hx hb dX12_take_116 rfl (lv_at hl 3 rfl) ?_
              refine lv_iload_n hx hb dX12_take_117 rfl (lv_at hl 4 rfl) ?_
              refine t_callV (As := [.int 6, .int u1, .int u2]) (rest := []) E hW (c_X12_find l G cI cJ cZ cD cR cT kp L f59 hW.2.2.2 _ h0 6 u1 u2 rh0 (by decide) (by omega) (by omega) (by rw [((fm_R g61 rh0 rfl).trans m56)]; exact (tx_rf hTX z64 mR rfl rfl))) rh0 (by decide) rfl wk_X12_find tw_1669 rfl ⟨Nat.le_of_ble_eq_true rfl, Nat.le_of_ble_eq_true rfl⟩ ⟨rfl, rfl⟩ hl.1 rfl (Nat.le_of_ble_eq_true rfl) dX12_take_118 ⟨Nat.le_of_ble_eq_true rfl, Nat.le_of_ble_eq_true rfl⟩ (fun v159 f160 H locs q161 hW => ?_)
              obtain ⟨⟨x163, rfl, p164⟩, g162⟩ := q161
              have p164 : (0 : Int) ≤ x163.toInt ∧ x163.toInt ≤ 1 := p164
              have m165 : oI (f160 h0) 0 = 0 := ((fm_I g162 rh0 rfl).trans ((fm_I g61 rh0 rfl).trans ((fm_I g53 rh0 rfl).trans ((fm_I g46 rh0 rfl).trans ((fm_I g37 rh0 rfl).trans ((fm_I g21 rh0 rfl).trans ((fm_I g12 rh0 rfl).trans e2)))))))
              have z166 : RF rw_X12_take f0 f160 h0 := rf_fm hTH z64 g162 rh0 rfl
              have hF := FM.tr hF g162 rfl
              refine q_if_ne (tgt := 131) hx hb dX12_take_121 (by decide) rfl (fun c167 => ?_) (fun c167 => ?_)
              · refine lv_aload_n hx hb dX12_take_131 rfl (lv_at hl 2 rfl) ?_
                refine fg_RX12_8 E hW rh0 dX12_take_132 (fun a168 m169 r170 => ?_)
                obtain rfl : pR = a168 := (((fm_R g162 rh0 rfl).trans ((fm_R g61 rh0 rfl).trans m56))).symm.trans m169
                refine lv_iload hx hb dX12_take_135 (lv_at hl 1 rfl) ?_
                refine lv_iconst (v := 3) hx hb dX12_take_137 (by decide) ?_
                refine q_iadd (Y := 3) hx hb dX12_take_138 rfl rfl (by omega) (fun x171 h172 => ?_)
                refine lv_iload_n hx hb dX12_take_139 rfl (lv_at hl 3 rfl) ?_
                refine gs_822 E hW rR ⟨by omega, by omega⟩ (fun hc => rr_up hc (by omega) (by omega) (by unfold rbI; omega)) dX12_take_140 (fun f173 H locs e174 n175 g176 hW => ?_)
                have z177 : RF rw_X12_take f0 f173 h0 := rf_st (lo := 367) (hi := 679) z166 mR e174 (by omega) rfl
                have hF := FM.tr hF g176 rfl
                refine lv_aload_n hx hb dX12_take_141 rfl (lv_at hl 2 rfl) ?_
                refine fg_RX12_8 E hW rh0 dX12_take_142 (fun a178 m179 r180 => ?_)
                obtain rfl : pR = a178 := (((fm_R g176 rh0 rfl).trans m169)).symm.trans m179
                refine lv_iload hx hb dX12_take_145 (lv_at hl 1 rfl) ?_
                refine lv_iconst (v := 5) hx hb dX12_take_147 (by decide) ?_
                refine q_iadd (Y := 5) hx hb dX12_take_148 rfl rfl (by omega) (fun x181 h182 => ?_)
                refine lv_iconst (v := 1) hx hb dX12_take_149 (by decide) ?_
                refine lv_iload_n hx hb dX12_take_150 rfl (lv_at hl 5 rfl) ?_
                refine q_isub (X := 1) hx hb dX12_take_151 rfl rfl (by omega) (fun x183 h184 => ?_)
                refine gs_822 E hW rR ⟨by omega, by omega⟩ (fun hc => rr_up hc (by omega) (by omega) (by unfold rbI; omega)) dX12_take_152 (fun f185 H locs e186 n187 g188 hW => ?_)
                have z189 : RF rw_X12_take f0 f185 h0 := rf_st (lo := 369) (hi := 681) z177 mR e186 (by omega) rfl
                have hF := FM.tr hF g188 rfl
                refine lv_aload_n hx hb dX12_take_153 rfl (lv_at hl 2 rfl) ?_
                refine fg_RX12_8 E hW rh0 dX12_take_154 (fun a190 m191 r192 => ?_)
                obtain rfl : pR = a190 := (((fm_R g188 rh0 rfl).trans m179)).symm.trans m191
                refine lv_iload_n hx hb dX12_take_157 rfl (lv_at hl 3 rfl) ?_
                refine t_callS (As := [.int u1]) (rest := [.ref pR]) E hW (c_X12_personAt l G cI cJ cZ cD cR cT kp L f185 hW.2.2.2 _ u1 (by omega)) wk_X12_personAt tw_1572 rfl ⟨Nat.le_of_ble_eq_true rfl, Nat.le_of_ble_eq_true rfl⟩ ⟨rfl, rfl⟩ hl.1 rfl (Nat.le_of_ble_eq_true rfl) dX12_take_158 ⟨Nat.le_of_ble_eq_true rfl, Nat.le_of_ble_eq_true rfl⟩ (fun v193 f194 H locs q195 hW => ?_)
                obtain ⟨⟨x197, rfl, p198⟩, g196⟩ := q195
                have m199 : aI (f194 pR) (x65 : Int32).toNatClampNeg = y67 := ((congrArg (fun z => aI z (x65 : Int32).toNatClampNeg) (fm_A g196 rR (by decide) rfl)).trans (show aI (f185 pR) (x65 : Int32).toNatClampNeg = y67 from by rw [e186, up_n (tn_ne (by omega) (by omega) (by omega))]; exact (show aI (f173 pR) (x65 : Int32).toNatClampNeg = y67 from by rw [e174, up_n (tn_ne (by omega) (by omega) (by omega))]; exact ((congrArg (fun z => aI z (x65 : Int32).toNatClampNeg) (fm_A g162 rR (by decide) rfl)).trans m68))))
                have m200 : aI (f194 pR) (x171 : Int32).toNatClampNeg = u1 := ((congrArg (fun z => aI z (x171 : Int32).toNatClampNeg) (fm_A g196 rR (by decide) rfl)).trans (show aI (f185 pR) (x171 : Int32).toNatClampNeg = u1 from by rw [e186, up_n (tn_ne (by omega) (by omega) (by omega))]; exact (show aI (f173 pR) (x171 : Int32).toNatClampNeg = u1 from by rw [e174]; exact up_s)))
                have m201 : aI (f194 pR) (x181 : Int32).toNatClampNeg = x183 := ((congrArg (fun z => aI z (x181 : Int32).toNatClampNeg) (fm_A g196 rR (by decide) rfl)).trans (show aI (f185 pR) (x181 : Int32).toNatClampNeg = x183 from by rw [e186]; exact up_s))
                have z202 : RF rw_X12_take f0 f194 h0 := rf_fm hTH z189 g196 rh0 rfl
                have hF := FM.tr hF g196 rfl
                refine lv_bipush (v := 7) hx hb dX12_take_161 (by decide) ?_
                refine q_iadd (Y := 7) hx hb dX12_take_163 rfl rfl (by omega) (fun x203 h204 => ?_)
                refine lv_iconst (v := (-1)) hx hb dX12_take_164 (by decide) ?_
                have hk205 : ((-1) : Int32).toInt = -1 := rfl
                refine gs_822 E hW rR ⟨by omega, by omega⟩ (fun hc => rr_up hc (by omega) (by omega) (by unfold rbI; omega)) dX12_take_165 (fun f206 H locs e207 n208 g209 hW => ?_)
                have z210 : RF rw_X12_take f0 f206 h0 := rf_st (lo := 27) (hi := 339) z202 mR e207 (by omega) rfl
                have hF := FM.tr hF g209 rfl
                refine lv_aload_n hx hb dX12_take_166 rfl (lv_at hl 2 rfl) ?_
                refine lv_iconst (v := 0) hx hb dX12_take_167 (by decide) ?_
                refine t_callV (As := [.int 0]) (rest := []) E hW (c_X12_told l G cI cJ cZ cD cR cT kp L f206 hW.2.2.2 _ h0 0 rh0) rh0 (by decide) rfl wk_X12_told tw_1557 rfl ⟨Nat.le_of_ble_eq_true rfl, Nat.le_of_ble_eq_true rfl⟩ ⟨rfl, rfl⟩ hl.1 rfl (Nat.le_of_ble_eq_true rfl) dX12_take_168 ⟨Nat.le_of_ble_eq_true rfl, Nat.le_of_ble_eq_true rfl⟩ (fun v211 f212 H locs q213 hW => ?_)
                obtain ⟨⟨x215, rfl, p216⟩, g214⟩ := q213
                clear p216
                have m217 : aI (f212 pR) (x65 : Int32).toNatClampNeg = y67 := ((congrArg (fun z => aI z (x65 : Int32).toNatClampNeg) (fm_A g214 rR (by decide) rfl)).trans (show aI (f206 pR) (x65 : Int32).toNatClampNeg = y67 from by rw [e207, up_n (tn_ne (by omega) (by omega) (by omega))]; exact m199))
                have m218 : aI (f212 pR) (x171 : Int32).toNatClampNeg = u1 := ((congrArg (fun z => aI z (x171 : Int32).toNatClampNeg) (fm_A g214 rR (by decide) rfl)).trans (show aI (f206 pR) (x171 : Int32).toNatClampNeg = u1 from by rw [e207, up_n (tn_ne (by omega) (by omega) (by omega))]; exact m200))
                have m219 : aI (f212 pR) (x181 : Int32).toNatClampNeg = x183 := ((congrArg (fun z => aI z (x181 : Int32).toNatClampNeg) (fm_A g214 rR (by decide) rfl)).trans (show aI (f206 pR) (x181 : Int32).toNatClampNeg = x183 from by rw [e207, up_n (tn_ne (by omega) (by omega) (by omega))]; exact m201))
                have m220 : aI (f212 pR) (x203 : Int32).toNatClampNeg = (-1) := ((congrArg (fun z => aI z (x203 : Int32).toNatClampNeg) (fm_A g214 rR (by decide) rfl)).trans (show aI (f206 pR) (x203 : Int32).toNatClampNeg = (-1) from by rw [e207]; exact up_s))
                have z221 : RF rw_X12_take f0 f212 h0 := rf_fm hTH z210 g214 rh0 rfl
                have hF := FM.tr hF g214 rfl
                exact e_I E hW rfl ⟨⟨_, rfl, trivial⟩, hF, z221⟩ dX12_take_171
              · refine lv_aload_n hx hb dX12_take_124 rfl (lv_at hl 2 rfl) ?_
                refine lv_bipush (v := (-3)) hx hb dX12_take_125 (by decide) ?_
                refine t_callV (As := [.int (-3)]) (rest := []) E hW (c_X12_told l G cI cJ cZ cD cR cT kp L f160 hW.2.2.2 _ h0 (-3) rh0) rh0 (by decide) rfl wk_X12_told tw_1557 rfl ⟨Nat.le_of_ble_eq_true rfl, Nat.le_of_ble_eq_true rfl⟩ ⟨rfl, rfl⟩ hl.1 rfl (Nat.le_of_ble_eq_true rfl) dX12_take_127 ⟨Nat.le_of_ble_eq_true rfl, Nat.le_of_ble_eq_true rfl⟩ (fun v222 f223 H locs q224 hW => ?_)
                obtain ⟨⟨x226, rfl, p227⟩, g225⟩ := q224
                clear p227
                have m228 : aI (f223 pR) (x65 : Int32).toNatClampNeg = y67 := ((congrArg (fun z => aI z (x65 : Int32).toNatClampNeg) (fm_A g225 rR (by decide) rfl)).trans ((congrArg (fun z => aI z (x65 : Int32).toNatClampNeg) (fm_A g162 rR (by decide) rfl)).trans m68))
                have z229 : RF rw_X12_take f0 f223 h0 := rf_fm hTH z166 g225 rh0 rfl
                have hF := FM.tr hF g225 rfl
                exact e_I E hW rfl ⟨⟨_, rfl, trivial⟩, hF, z229⟩ dX12_take_130
        refine q_if_ne (tgt := 101) hx hb dX12_take_65 (by decide) rfl (fun c230 => ?_) (fun c230 => ?_)
        · refine lv_iconst (v := 0) hx hb dX12_take_101 (by decide) ?_
          exact J93 0 (by decide) _ _ _ hW hF (lv_sub hl [0, 1, 2, 3, 4] rfl)
        · refine lv_aload_n hx hb dX12_take_68 rfl (lv_at hl 1 rfl) ?_
          refine fg_RX12_8 E hW rh0 dX12_take_69 (fun a231 m232 r233 => ?_)
          obtain rfl : pR = a231 := (((fm_R g61 rh0 rfl).trans m56)).symm.trans m232
          refine lv_iload hx hb dX12_take_72 (lv_at hl 0 rfl) ?_
          refine lv_iconst (v := 3) hx hb dX12_take_74 (by decide) ?_
          refine q_iadd (Y := 3) hx hb dX12_take_75 rfl rfl (by omega) (fun x234 h235 => ?_)
          refine gl_822 E hW rR ⟨by omega, by omega⟩ dX12_take_76 (fun y236 m237 b238 => ?_)
          have b239 := rr_fhol (show RowInv _ from b238) m237 (by omega)
          refine lv_iconst (v := (-1)) hx hb dX12_take_77 (by decide) ?_
          refine q_icmp_ne (Y := -1) (tgt := 101) hx hb dX12_take_78 (by decide) rfl rfl (fun c240 => ?_) (fun c240 => ?_)
          · refine lv_iconst (v := 0) hx hb dX12_take_101 (by decide) ?_
            exact J93 0 (by decide) _ _ _ hW hF (lv_sub hl [0, 1, 2, 3, 4] rfl)
          · refine lv_aload_n hx hb dX12_take_81 rfl (lv_at hl 1 rfl) ?_
            refine fg_RX12_8 E hW rh0 dX12_take_82 (fun a241 m242 r243 => ?_)
            obtain rfl : pR = a241 := (m232).symm.trans m242
            refine lv_iload hx hb dX12_take_85 (lv_at hl 0 rfl) ?_
            refine lv_bipush (v := 6) hx hb dX12_take_87 (by decide) ?_
            refine q_iadd (Y := 6) hx hb dX12_take_89 rfl rfl (by omega) (fun x244 h245 => ?_)
            refine gl_822 E hW rR ⟨by omega, by omega⟩ dX12_take_90 (fun y246 m247 b248 => ?_)
            refine lv_iconst (v := 1) hx hb dX12_take_91 (by decide) ?_
            refine lv_iload_n hx hb dX12_take_92 rfl (lv_at hl 4 rfl) ?_
            refine q_isub (X := 1) hx hb dX12_take_93 rfl rfl (by omega) (fun x249 h250 => ?_)
            refine q_icmp_ne (tgt := 101) hx hb dX12_take_94 (by decide) rfl rfl (fun c251 => ?_) (fun c251 => ?_)
            · refine lv_iconst (v := 0) hx hb dX12_take_101 (by decide) ?_
              exact J93 0 (by decide) _ _ _ hW hF (lv_sub hl [0, 1, 2, 3, 4] rfl)
            · refine lv_iconst (v := 1) hx hb dX12_take_97 (by decide) ?_
              refine lv_goto (tgt := 102) hx hb dX12_take_98 (by decide) ?_
              exact J93 1 (by decide) _ _ _ hW hF (lv_sub hl [0, 1, 2, 3, 4] rfl)
      · clear p39
        refine lv_aload_n hx hb dX12_take_37 rfl (lv_at hl 0 rfl) ?_
        refine lv_bipush (v := (-2)) hx hb dX12_take_38 (by decide) ?_
        refine t_callV (As := [.int (-2)]) (rest := []) E hW (c_X12_told l G cI cJ cZ cD cR cT kp L f35 hW.2.2.2 _ h0 (-2) rh0) rh0 (by decide) rfl wk_X12_told tw_1557 rfl ⟨Nat.le_of_ble_eq_true rfl, Nat.le_of_ble_eq_true rfl⟩ ⟨rfl, rfl⟩ hl.1 rfl (Nat.le_of_ble_eq_true rfl) dX12_take_40 ⟨Nat.le_of_ble_eq_true rfl, Nat.le_of_ble_eq_true rfl⟩ (fun v252 f253 H locs q254 hW => ?_)
        obtain ⟨⟨x256, rfl, p257⟩, g255⟩ := q254
        clear p257
        have z258 : RF rw_X12_take f0 f253 h0 := rf_fm hTH z40 g255 rh0 rfl
        have hF := FM.tr hF g255 rfl
        exact e_I E hW rfl ⟨⟨_, rfl, trivial⟩, hF, z258⟩ dX12_take_43
  · have q259 : (x6.toInt < 0 ∨ 1 < x6.toInt) := by omega
    clear p14
    refine lv_aload_n hx hb dX12_take_15 rfl (lv_at hl 0 rfl) ?_
    refine lv_iconst (v := (-1)) hx hb dX12_take_16 (by decide) ?_
    refine t_callV (As := [.int (-1)]) (rest := []) E hW (c_X12_told l G cI cJ cZ cD cR cT kp L f10 hW.2.2.2 _ h0 (-1) rh0) rh0 (by decide) rfl wk_X12_told tw_1557 rfl ⟨Nat.le_of_ble_eq_true rfl, Nat.le_of_ble_eq_true rfl⟩ ⟨rfl, rfl⟩ hl.1 rfl (Nat.le_of_ble_eq_true rfl) dX12_take_17 ⟨Nat.le_of_ble_eq_true rfl, Nat.le_of_ble_eq_true rfl⟩ (fun v260 f261 H locs q262 hW => ?_)
    obtain ⟨⟨x264, rfl, p265⟩, g263⟩ := q262
    clear p265
    have z266 : RF rw_X12_take f0 f261 h0 := rf_fm hTH z15 g263 rh0 rfl
    have hF := FM.tr hF g263 rfl
    exact e_I E hW rfl ⟨⟨_, rfl, trivial⟩, hF, z266⟩ dX12_take_20
def rw_X12_addWrit : List (Nat × Nat) := [(4, 4), (20, 1043)]
def ms_X12_addWrit : List (Nat × Nat) := [(822, 0)]
def po_X12_addWrit (kp : Nat → Nat) (L : List Nat) (f0 : Nat → va_E) (h0 : Nat) (u1 : Int32) : Option Value → (Nat → va_E) → Prop := fun v f => v = none ∧ FM kp L ms_X12_addWrit f0 f ∧ (RF rw_X12_addWrit f0 f h0)
set_option maxHeartbeats 4000000 in
set_option maxRecDepth 100000 in
theorem c_X12_addWrit (l : Launch) (G : va_G) (cI cJ cZ cD cR cT : ClassId) (kp : Nat → Nat) (L : List Nat) (f0 : Nat → va_E) (hTH : TH cI cJ cZ cD cR cT kp L f0) (sz : Nat) (h0 : Nat) (u1 : Int32) (rh0 : RK kp L h0 12) (pu1 : (0 : Int) ≤ u1.toInt ∧ u1.toInt ≤ 39) (hr4 : (0 : Int) ≤ (aI (f0 (oR (f0 h0) 2)) (4 : Int32).toNatClampNeg).toInt ∧ (aI (f0 (oR (f0 h0) 2)) (4 : Int32).toNatClampNeg).toInt ≤ 59) (hTX : TX (aI (f0 (oR (f0 h0) 2)))) : Met l yX12_addWrit (Cond.code yX12_addWrit cX12_addWrit 3 none :: wTab) ({ frames := 4, cells := 0, slots := 0, locals := 106 }) (va_Pc [.ref h0, .int u1] (PreW G (tys6 cI cJ cZ cD cR cT) (va_pl L f0) sz)) (QT (po_X12_addWrit kp L f0 h0 u1) G cI cJ cZ cD cR cT (va_A (va_pl L f0) sz) kp L) 0 0 (va_A (va_pl L f0) sz) := by
  refine metT (by decide) (Nat.le_of_ble_eq_true rfl) hTH ?_
  intro p e s m below meth c A ls E hW hl
  obtain ⟨hx, hb, -, hml, hown, hts, -, -, -⟩ := id E
  have hF : FM kp L ms_X12_addWrit f0 f0 := FM.rf
  have hl : lv_has ls 3 [(0, .ref h0), (1, .int u1)] := hl
  obtain ⟨pR, mR⟩ : ∃ x : Nat, oR (f0 h0) 2 = x := ⟨_, rfl⟩
  have rR : RK kp L pR 822 := by rw [← mR]; exact th_ref hTH rh0 (by decide) (by decide) rfl
  rw [mR] at hr4
  obtain ⟨p4, mp4⟩ : ∃ x : Int32, aI (f0 pR) (4 : Int32).toNatClampNeg = x := ⟨_, rfl⟩
  rw [mp4] at hr4
  rw [mR] at hTX
  refine lv_sipush (v := 684) hx hb dX12_addWrit_0 (by decide) ?_
  refine lv_bipush (v := 6) hx hb dX12_addWrit_3 (by decide) ?_
  refine lv_aload_n hx hb dX12_addWrit_5 rfl (lv_at hl 0 rfl) ?_
  refine fg_RX12_8 E hW rh0 dX12_addWrit_6 (fun a1 m2 r3 => ?_)
  obtain rfl : pR = a1 := (mR).symm.trans m2
  refine lv_iconst (v := 4) hx hb dX12_addWrit_9 (by decide) ?_
  refine gl_822 E hW rR (by decide) dX12_addWrit_10 (fun y4 m5 b6 => ?_)
  obtain rfl : p4 = y4 := (mp4).symm.trans m5
  refine q_imul (X := 6) hx hb dX12_addWrit_11 rfl rfl (by omega) (fun x7 h8 => ?_)
  refine q_iadd (X := 684) hx hb dX12_addWrit_12 rfl rfl (by omega) (fun x9 h10 => ?_)
  refine lv_istore_n (lv' := [(2, .int x9), (0, .ref h0), (1, .int u1)]) hx hb dX12_addWrit_13 rfl hl (by decide) rfl (fun ls hl => ?_)
  refine lv_aload_n hx hb dX12_addWrit_14 rfl (lv_at hl 1 rfl) ?_
  refine lv_iload_n hx hb dX12_addWrit_15 rfl (lv_at hl 0 rfl) ?_
  refine lv_iload_n hx hb dX12_addWrit_16 rfl (lv_at hl 2 rfl) ?_
  refine lv_aload_n hx hb dX12_addWrit_17 rfl (lv_at hl 1 rfl) ?_
  refine fg_RX12_8 E hW rh0 dX12_addWrit_18 (fun a11 m12 r13 => ?_)
  obtain rfl : pR = a11 := (m2).symm.trans m12
  refine lv_iload_n hx hb dX12_addWrit_21 rfl (lv_at hl 2 rfl) ?_
  refine t_callS (As := [.int u1]) (rest := [.ref pR, .int u1, .int x9, .ref h0]) E hW (c_X12_fieldAt l G cI cJ cZ cD cR cT kp L f0 hW.2.2.2 _ u1 (by omega)) wk_X12_fieldAt tw_1624 rfl ⟨Nat.le_of_ble_eq_true rfl, Nat.le_of_ble_eq_true rfl⟩ ⟨rfl, rfl⟩ hl.1 rfl (Nat.le_of_ble_eq_true rfl) dX12_addWrit_22 ⟨Nat.le_of_ble_eq_true rfl, Nat.le_of_ble_eq_true rfl⟩ (fun v14 f15 H locs q16 hW => ?_)
  obtain ⟨⟨x18, rfl, p19⟩, g17⟩ := q16
  have z20 : RF rw_X12_addWrit f0 f15 h0 := rf_fm hTH rf_rf g17 rh0 rfl
  have hF := FM.tr hF g17 rfl
  refine lv_iconst (v := 3) hx hb dX12_addWrit_25 (by decide) ?_
  refine q_iadd (Y := 3) hx hb dX12_addWrit_26 rfl rfl (by omega) (fun x21 h22 => ?_)
  refine gl_822 E hW rR ⟨by omega, by omega⟩ dX12_addWrit_27 (fun y23 m24 b25 => ?_)
  have b26 := rr_fhol (show RowInv _ from b25) m24 (by omega)
  refine lv_iconst (v := 0) hx hb dX12_addWrit_28 (by decide) ?_
  refine lv_aload_n hx hb dX12_addWrit_29 rfl (lv_at hl 1 rfl) ?_
  refine lv_iconst (v := 0) hx hb dX12_addWrit_30 (by decide) ?_
  refine t_callV (As := [.int 0]) (rest := [.int 0, .int y23, .int u1, .int x9, .ref h0]) E hW (c_X12_stepWeeks l G cI cJ cZ cD cR cT kp L f15 hW.2.2.2 _ h0 0 rh0 (by decide) (by rw [((fm_R g17 rh0 rfl).trans m12)]; exact (tx_rf hTX z20 mR rfl rfl))) rh0 (by decide) rfl wk_X12_stepWeeks tw_1938 rfl ⟨Nat.le_of_ble_eq_true rfl, Nat.le_of_ble_eq_true rfl⟩ ⟨rfl, rfl⟩ hl.1 rfl (Nat.le_of_ble_eq_true rfl) dX12_addWrit_31 ⟨Nat.le_of_ble_eq_true rfl, Nat.le_of_ble_eq_true rfl⟩ (fun v27 f28 H locs q29 hW => ?_)
  obtain ⟨⟨x31, rfl, p32⟩, g30⟩ := q29
  clear p32
  have m33 : aI (f28 pR) (4 : Int32).toNatClampNeg = p4 := ((congrArg (fun z => aI z (4 : Int32).toNatClampNeg) (fm_A g30 rR (by decide) rfl)).trans ((congrArg (fun z => aI z (4 : Int32).toNatClampNeg) (fm_A g17 rR (by decide) rfl)).trans m5))
  have z34 : RF rw_X12_addWrit f0 f28 h0 := rf_fm hTH z20 g30 rh0 rfl
  have hF := FM.tr hF g30 rfl
  have hk35 : (0 : Int32).toInt = 0 := rfl
  refine t_callV (As := [.int x9, .int u1, .int y23, .int 0, .int x31]) (rest := []) E hW (c_X12_addFour l G cI cJ cZ cD cR cT kp L f28 hW.2.2.2 _ h0 x9 u1 y23 0 x31 rh0 (by omega) (by omega) (by omega) (by decide) ⟨by omega, by omega, by unfold rbI; omega, by unfold rbI; omega, by unfold rbI; omega, by unfold rbI; omega⟩) rh0 (by decide) rfl wk_X12_addFour tw_1575 rfl ⟨Nat.le_of_ble_eq_true rfl, Nat.le_of_ble_eq_true rfl⟩ ⟨rfl, rfl⟩ hl.1 rfl (Nat.le_of_ble_eq_true rfl) dX12_addWrit_34 ⟨Nat.le_of_ble_eq_true rfl, Nat.le_of_ble_eq_true rfl⟩ (fun v36 f37 H locs q38 hW => ?_)
  obtain ⟨rfl, g39, h40, h41⟩ := q38
  have z42 : RF rw_X12_addWrit f0 f37 h0 := rf_call z34 h41 mR ((fm_R g30 rh0 rfl).trans ((fm_R g17 rh0 rfl).trans m12)) rfl
  have hF := FM.tr hF g39 rfl
  have m43 : aI (f37 pR) (4 : Int32).toNatClampNeg = p4 := by
    have z := h40
    rw [((fm_R g30 rh0 rfl).trans ((fm_R g17 rh0 rfl).trans m12))] at z
    have z2 := tnc (i := 4) (by first | omega | decide)
    have hk : (4 : Int32).toInt = 4 := rfl
    exact (z _ (by omega)).trans m33
  have m44 : aI (f37 pR) (x21 : Int32).toNatClampNeg = y23 := by
    have z := h40
    rw [((fm_R g30 rh0 rfl).trans ((fm_R g17 rh0 rfl).trans m12))] at z
    have z2 := tnc (i := x21) (by first | omega | decide)
    have hk : (x21 : Int32).toInt = x21.toInt := rfl
    exact (z _ (by omega)).trans ((congrArg (fun z => aI z (x21 : Int32).toNatClampNeg) (fm_A g30 rR (by decide) rfl)).trans m24)
  refine lv_aload_n hx hb dX12_addWrit_37 rfl (lv_at hl 1 rfl) ?_
  refine fg_RX12_8 E hW rh0 dX12_addWrit_38 (fun a45 m46 r47 => ?_)
  obtain rfl : pR = a45 := (((fm_R g39 rh0 rfl).trans ((fm_R g30 rh0 rfl).trans ((fm_R g17 rh0 rfl).trans m12)))).symm.trans m46
  refine lv_iload_n hx hb dX12_addWrit_41 rfl (lv_at hl 0 rfl) ?_
  refine lv_iconst (v := 4) hx hb dX12_addWrit_42 (by decide) ?_
  refine q_iadd (Y := 4) hx hb dX12_addWrit_43 rfl rfl (by omega) (fun x48 h49 => ?_)
  refine lv_aload_n hx hb dX12_addWrit_44 rfl (lv_at hl 1 rfl) ?_
  refine fg_RX12_8 E hW rh0 dX12_addWrit_45 (fun a50 m51 r52 => ?_)
  obtain rfl : pR = a50 := (m46).symm.trans m51
  refine lv_bipush (v := 8) hx hb dX12_addWrit_48 (by decide) ?_
  refine gl_822 E hW rR (by decide) dX12_addWrit_50 (fun y53 m54 b55 => ?_)
  have b56 := rr_8 (show RowInv _ from b55) m54 (by decide)
  refine gs_822 E hW rR ⟨by omega, by omega⟩ (fun hc => rr_up hc (by omega) (by omega) (by unfold rbI; omega)) dX12_addWrit_51 (fun f57 H locs e58 n59 g60 hW => ?_)
  have z61 : RF rw_X12_addWrit f0 f57 h0 := rf_st (lo := 688) (hi := 1042) z42 mR e58 (by omega) rfl
  have hF := FM.tr hF g60 rfl
  refine lv_aload_n hx hb dX12_addWrit_52 rfl (lv_at hl 1 rfl) ?_
  refine fg_RX12_8 E hW rh0 dX12_addWrit_53 (fun a62 m63 r64 => ?_)
  obtain rfl : pR = a62 := (((fm_R g60 rh0 rfl).trans m51)).symm.trans m63
  refine lv_iload_n hx hb dX12_addWrit_56 rfl (lv_at hl 0 rfl) ?_
  refine lv_iconst (v := 5) hx hb dX12_addWrit_57 (by decide) ?_
  refine q_iadd (Y := 5) hx hb dX12_addWrit_58 rfl rfl (by omega) (fun x65 h66 => ?_)
  refine lv_iconst (v := 0) hx hb dX12_addWrit_59 (by decide) ?_
  have hk67 : (0 : Int32).toInt = 0 := rfl
  refine gs_822 E hW rR ⟨by omega, by omega⟩ (fun hc => rr_up hc (by omega) (by omega) (by unfold rbI; omega)) dX12_addWrit_60 (fun f68 H locs e69 n70 g71 hW => ?_)
  have z72 : RF rw_X12_addWrit f0 f68 h0 := rf_st (lo := 689) (hi := 1043) z61 mR e69 (by omega) rfl
  have hF := FM.tr hF g71 rfl
  refine lv_aload_n hx hb dX12_addWrit_61 rfl (lv_at hl 1 rfl) ?_
  refine fg_RX12_8 E hW rh0 dX12_addWrit_62 (fun a73 m74 r75 => ?_)
  obtain rfl : pR = a73 := (((fm_R g71 rh0 rfl).trans m63)).symm.trans m74
  refine lv_iconst (v := 4) hx hb dX12_addWrit_65 (by decide) ?_
  refine lv_dup2_11 hx hb dX12_addWrit_66 rfl rfl ?_
  refine gl_822 E hW rR (by decide) dX12_addWrit_67 (fun y76 m77 b78 => ?_)
  obtain rfl : p4 = y76 := ((show aI (f68 pR) (4 : Int32).toNatClampNeg = p4 from by rw [e69, up_n (tn_ne (by omega) (by decide) (by have hk0 : (4 : Int32).toInt = 4 := rfl; omega))]; exact (show aI (f57 pR) (4 : Int32).toNatClampNeg = p4 from by rw [e58, up_n (tn_ne (by omega) (by decide) (by have hk0 : (4 : Int32).toInt = 4 := rfl; omega))]; exact m43))).symm.trans m77
  refine lv_iconst (v := 1) hx hb dX12_addWrit_68 (by decide) ?_
  refine q_iadd (Y := 1) hx hb dX12_addWrit_69 rfl rfl (by omega) (fun x79 h80 => ?_)
  have hk81 : (4 : Int32).toInt = 4 := rfl
  refine gs_822 E hW rR (by decide) (fun hc => rr_up hc (by omega) (by omega) (by unfold rbI; omega)) dX12_addWrit_70 (fun f82 H locs e83 n84 g85 hW => ?_)
  have z86 : RF rw_X12_addWrit f0 f82 h0 := rf_st (lo := 4) (hi := 4) z72 mR e83 (by decide) rfl
  have hF := FM.tr hF g85 rfl
  exact e_V E hW rfl ⟨rfl, hF, z86⟩ dX12_addWrit_71
def rw_X12_writ : List (Nat × Nat) := [(4, 4), (20, 1043)]
def ms_X12_writ : List (Nat × Nat) := [(12, 0), (12, 1), (822, 0), (849, 0), (850, 0)]
def po_X12_writ (kp : Nat → Nat) (L : List Nat) (f0 : Nat → va_E) (h0 : Nat) (u1 : Int32) : Option Value → (Nat → va_E) → Prop := fun v f => (∃ r : Int32, v = some (.int r) ∧ (True)) ∧ FM kp L ms_X12_writ f0 f ∧ (RF rw_X12_writ f0 f h0)
set_option maxHeartbeats 4000000 in
set_option maxRecDepth 100000 in
theorem c_X12_writ (l : Launch) (G : va_G) (cI cJ cZ cD cR cT : ClassId) (kp : Nat → Nat) (L : List Nat) (f0 : Nat → va_E) (hTH : TH cI cJ cZ cD cR cT kp L f0) (sz : Nat) (h0 : Nat) (u1 : Int32) (rh0 : RK kp L h0 12) (hTX : TX (aI (f0 (oR (f0 h0) 2)))) : Met l yX12_writ (Cond.code yX12_writ cX12_writ 2 (some .int) :: wTab) ({ frames := 5, cells := 0, slots := 0, locals := 128 }) (va_Pc [.ref h0, .int u1] (PreW G (tys6 cI cJ cZ cD cR cT) (va_pl L f0) sz)) (QT (po_X12_writ kp L f0 h0 u1) G cI cJ cZ cD cR cT (va_A (va_pl L f0) sz) kp L) 0 0 (va_A (va_pl L f0) sz) := by
  refine metT (by decide) (Nat.le_of_ble_eq_true rfl) hTH ?_
  intro p e s m below meth c A ls E hW hl
  obtain ⟨hx, hb, -, hml, hown, hts, -, -, -⟩ := id E
  have hF : FM kp L ms_X12_writ f0 f0 := FM.rf
  have hl : lv_has ls 2 [(0, .ref h0), (1, .int u1)] := hl
  obtain ⟨pR, mR⟩ : ∃ x : Nat, oR (f0 h0) 2 = x := ⟨_, rfl⟩
  have rR : RK kp L pR 822 := by rw [← mR]; exact th_ref hTH rh0 (by decide) (by decide) rfl
  rw [mR] at hTX
  refine lv_aload_n hx hb dX12_writ_0 rfl (lv_at hl 0 rfl) ?_
  refine lv_iconst (v := 0) hx hb dX12_writ_1 (by decide) ?_
  refine fp_RX12_82 E hW rh0 dX12_writ_2 (fun f1 H locs e2 n3 g4 hW => ?_)
  have z5 : RF rw_X12_writ f0 f1 h0 := rf_fm hTH rf_rf g4 rh0 rfl
  have hF := FM.tr hF g4 rfl
  refine lv_aload_n hx hb dX12_writ_5 rfl (lv_at hl 0 rfl) ?_
  refine lv_iload_n hx hb dX12_writ_6 rfl (lv_at hl 1 rfl) ?_
  refine t_callV (As := [.int u1]) (rest := []) E hW (c_X12_isField l G cI cJ cZ cD cR cT kp L f1 hW.2.2.2 _ h0 u1 rh0) rh0 (by decide) rfl wk_X12_isField tw_1639 rfl ⟨Nat.le_of_ble_eq_true rfl, Nat.le_of_ble_eq_true rfl⟩ ⟨rfl, rfl⟩ hl.1 rfl (Nat.le_of_ble_eq_true rfl) dX12_writ_7 ⟨Nat.le_of_ble_eq_true rfl, Nat.le_of_ble_eq_true rfl⟩ (fun v6 f7 H locs q8 hW => ?_)
  obtain ⟨⟨x10, rfl, p11⟩, g9⟩ := q8
  have z12 : RF rw_X12_writ f0 f7 h0 := rf_fm hTH z5 g9 rh0 rfl
  have hF := FM.tr hF g9 rfl
  refine q_if_ne (tgt := 20) hx hb dX12_writ_10 (by decide) rfl (fun c13 => ?_) (fun c13 => ?_)
  · have q14 : 0 ≤ u1.toInt ∧ u1.toInt ≤ 39 := by omega
    clear p11
    refine lv_aload_n hx hb dX12_writ_20 rfl (lv_at hl 0 rfl) ?_
    refine lv_iload_n hx hb dX12_writ_21 rfl (lv_at hl 1 rfl) ?_
    refine t_callV (As := [.int u1]) (rest := []) E hW (c_X12_canWrit l G cI cJ cZ cD cR cT kp L f7 hW.2.2.2 _ h0 u1 rh0 (by omega)) rh0 (by decide) rfl wk_X12_canWrit tw_1930 rfl ⟨Nat.le_of_ble_eq_true rfl, Nat.le_of_ble_eq_true rfl⟩ ⟨rfl, rfl⟩ hl.1 rfl (Nat.le_of_ble_eq_true rfl) dX12_writ_22 ⟨Nat.le_of_ble_eq_true rfl, Nat.le_of_ble_eq_true rfl⟩ (fun v15 f16 H locs q17 hW => ?_)
    obtain ⟨⟨x19, rfl, p20⟩, g18⟩ := q17
    have z21 : RF rw_X12_writ f0 f16 h0 := rf_fm hTH z12 g18 rh0 rfl
    have hF := FM.tr hF g18 rfl
    refine q_if_ne (tgt := 35) hx hb dX12_writ_25 (by decide) rfl (fun c22 => ?_) (fun c22 => ?_)
    · refine lv_aload_n hx hb dX12_writ_35 rfl (lv_at hl 0 rfl) ?_
      refine fg_RX12_8 E hW rh0 dX12_writ_36 (fun a23 m24 r25 => ?_)
      obtain rfl : pR = a23 := (((fm_R g18 rh0 rfl).trans ((fm_R g9 rh0 rfl).trans ((fm_R g4 rh0 rfl).trans mR)))).symm.trans m24
      refine lv_iconst (v := 4) hx hb dX12_writ_39 (by decide) ?_
      refine gl_822 E hW rR (by decide) dX12_writ_40 (fun y26 m27 b28 => ?_)
      have b29 := rr_4 (show RowInv _ from b28) m27 (by decide)
      refine lv_bipush (v := 60) hx hb dX12_writ_41 (by decide) ?_
      refine q_icmp_ne (Y := 60) (tgt := 53) hx hb dX12_writ_43 (by decide) rfl rfl (fun c30 => ?_) (fun c30 => ?_)
      · refine lv_aload_n hx hb dX12_writ_53 rfl (lv_at hl 0 rfl) ?_
        refine t_callV (As := []) (rest := []) E hW (c_X12_forceNow l G cI cJ cZ cD cR cT kp L f16 hW.2.2.2 _ h0 rh0 (by rw [m24]; exact (tx_rf hTX z21 mR rfl rfl))) rh0 (by decide) rfl wk_X12_forceNow tw_1647 rfl ⟨Nat.le_of_ble_eq_true rfl, Nat.le_of_ble_eq_true rfl⟩ ⟨rfl, rfl⟩ hl.1 rfl (Nat.le_of_ble_eq_true rfl) dX12_writ_54 ⟨Nat.le_of_ble_eq_true rfl, Nat.le_of_ble_eq_true rfl⟩ (fun v31 f32 H locs q33 hW => ?_)
        obtain ⟨rfl, g34⟩ := q33
        have z35 : RF rw_X12_writ f0 f32 h0 := rf_fm hTH z21 g34 rh0 rfl
        have hF := FM.tr hF g34 rfl
        refine lv_aload_n hx hb dX12_writ_57 rfl (lv_at hl 0 rfl) ?_
        refine lv_iload_n hx hb dX12_writ_58 rfl (lv_at hl 1 rfl) ?_
        refine t_callV (As := [.int u1]) (rest := []) E hW (c_X12_addWrit l G cI cJ cZ cD cR cT kp L f32 hW.2.2.2 _ h0 u1 rh0 (by omega) (by rw [((fm_R g34 rh0 rfl).trans m24), ((congrArg (fun z => aI z (4 : Int32).toNatClampNeg) (fm_A g34 rR (by decide) rfl)).trans m27)]; omega) (by rw [((fm_R g34 rh0 rfl).trans m24)]; exact (tx_rf hTX z35 mR rfl rfl))) rh0 (by decide) rfl wk_X12_addWrit tw_1934 rfl ⟨Nat.le_of_ble_eq_true rfl, Nat.le_of_ble_eq_true rfl⟩ ⟨rfl, rfl⟩ hl.1 rfl (Nat.le_of_ble_eq_true rfl) dX12_writ_59 ⟨Nat.le_of_ble_eq_true rfl, Nat.le_of_ble_eq_true rfl⟩ (fun v36 f37 H locs q38 hW => ?_)
        obtain ⟨rfl, g39, h40⟩ := q38
        have z41 : RF rw_X12_writ f0 f37 h0 := rf_call z35 h40 mR ((fm_R g34 rh0 rfl).trans m24) rfl
        have hF := FM.tr hF g39 rfl
        refine lv_aload_n hx hb dX12_writ_62 rfl (lv_at hl 0 rfl) ?_
        refine lv_aload_n hx hb dX12_writ_63 rfl (lv_at hl 0 rfl) ?_
        refine fg_RX12_8 E hW rh0 dX12_writ_64 (fun a42 m43 r44 => ?_)
        obtain rfl : pR = a42 := (((fm_R g39 rh0 rfl).trans ((fm_R g34 rh0 rfl).trans m24))).symm.trans m43
        refine lv_iconst (v := 4) hx hb dX12_writ_67 (by decide) ?_
        refine gl_822 E hW rR (by decide) dX12_writ_68 (fun y45 m46 b47 => ?_)
        have b48 := rr_4 (show RowInv _ from b47) m46 (by decide)
        refine t_callV (As := [.int y45]) (rest := []) E hW (c_X12_told l G cI cJ cZ cD cR cT kp L f37 hW.2.2.2 _ h0 y45 rh0) rh0 (by decide) rfl wk_X12_told tw_1557 rfl ⟨Nat.le_of_ble_eq_true rfl, Nat.le_of_ble_eq_true rfl⟩ ⟨rfl, rfl⟩ hl.1 rfl (Nat.le_of_ble_eq_true rfl) dX12_writ_69 ⟨Nat.le_of_ble_eq_true rfl, Nat.le_of_ble_eq_true rfl⟩ (fun v49 f50 H locs q51 hW => ?_)
        obtain ⟨⟨x53, rfl, p54⟩, g52⟩ := q51
        clear p54
        have z55 : RF rw_X12_writ f0 f50 h0 := rf_fm hTH z41 g52 rh0 rfl
        have hF := FM.tr hF g52 rfl
        exact e_I E hW rfl ⟨⟨_, rfl, trivial⟩, hF, z55⟩ dX12_writ_72
      · refine lv_aload_n hx hb dX12_writ_46 rfl (lv_at hl 0 rfl) ?_
        refine lv_bipush (v := (-5)) hx hb dX12_writ_47 (by decide) ?_
        refine t_callV (As := [.int (-5)]) (rest := []) E hW (c_X12_told l G cI cJ cZ cD cR cT kp L f16 hW.2.2.2 _ h0 (-5) rh0) rh0 (by decide) rfl wk_X12_told tw_1557 rfl ⟨Nat.le_of_ble_eq_true rfl, Nat.le_of_ble_eq_true rfl⟩ ⟨rfl, rfl⟩ hl.1 rfl (Nat.le_of_ble_eq_true rfl) dX12_writ_49 ⟨Nat.le_of_ble_eq_true rfl, Nat.le_of_ble_eq_true rfl⟩ (fun v56 f57 H locs q58 hW => ?_)
        obtain ⟨⟨x60, rfl, p61⟩, g59⟩ := q58
        clear p61
        have z62 : RF rw_X12_writ f0 f57 h0 := rf_fm hTH z21 g59 rh0 rfl
        have hF := FM.tr hF g59 rfl
        exact e_I E hW rfl ⟨⟨_, rfl, trivial⟩, hF, z62⟩ dX12_writ_52
    · refine lv_aload_n hx hb dX12_writ_28 rfl (lv_at hl 0 rfl) ?_
      refine lv_bipush (v := (-3)) hx hb dX12_writ_29 (by decide) ?_
      refine t_callV (As := [.int (-3)]) (rest := []) E hW (c_X12_told l G cI cJ cZ cD cR cT kp L f16 hW.2.2.2 _ h0 (-3) rh0) rh0 (by decide) rfl wk_X12_told tw_1557 rfl ⟨Nat.le_of_ble_eq_true rfl, Nat.le_of_ble_eq_true rfl⟩ ⟨rfl, rfl⟩ hl.1 rfl (Nat.le_of_ble_eq_true rfl) dX12_writ_31 ⟨Nat.le_of_ble_eq_true rfl, Nat.le_of_ble_eq_true rfl⟩ (fun v63 f64 H locs q65 hW => ?_)
      obtain ⟨⟨x67, rfl, p68⟩, g66⟩ := q65
      clear p68
      have z69 : RF rw_X12_writ f0 f64 h0 := rf_fm hTH z21 g66 rh0 rfl
      have hF := FM.tr hF g66 rfl
      exact e_I E hW rfl ⟨⟨_, rfl, trivial⟩, hF, z69⟩ dX12_writ_34
  · clear p11
    refine lv_aload_n hx hb dX12_writ_13 rfl (lv_at hl 0 rfl) ?_
    refine lv_bipush (v := (-2)) hx hb dX12_writ_14 (by decide) ?_
    refine t_callV (As := [.int (-2)]) (rest := []) E hW (c_X12_told l G cI cJ cZ cD cR cT kp L f7 hW.2.2.2 _ h0 (-2) rh0) rh0 (by decide) rfl wk_X12_told tw_1557 rfl ⟨Nat.le_of_ble_eq_true rfl, Nat.le_of_ble_eq_true rfl⟩ ⟨rfl, rfl⟩ hl.1 rfl (Nat.le_of_ble_eq_true rfl) dX12_writ_16 ⟨Nat.le_of_ble_eq_true rfl, Nat.le_of_ble_eq_true rfl⟩ (fun v70 f71 H locs q72 hW => ?_)
    obtain ⟨⟨x74, rfl, p75⟩, g73⟩ := q72
    clear p75
    have z76 : RF rw_X12_writ f0 f71 h0 := rf_fm hTH z12 g73 rh0 rfl
    have hF := FM.tr hF g73 rfl
    exact e_I E hW rfl ⟨⟨_, rfl, trivial⟩, hF, z76⟩ dX12_writ_19
def rw_X12_goWrit : List (Nat × Nat) := [(17, 339), (367, 682), (686, 1043)]
def ms_X12_goWrit : List (Nat × Nat) := [(12, 38), (822, 0)]
def po_X12_goWrit (kp : Nat → Nat) (L : List Nat) (f0 : Nat → va_E) (h0 : Nat) (u1 : Int32) : Option Value → (Nat → va_E) → Prop := fun v f => v = none ∧ FM kp L ms_X12_goWrit f0 f ∧ (RF rw_X12_goWrit f0 f h0)
set_option maxHeartbeats 4000000 in
set_option maxRecDepth 100000 in
theorem c_X12_goWrit (l : Launch) (G : va_G) (cI cJ cZ cD cR cT : ClassId) (kp : Nat → Nat) (L : List Nat) (f0 : Nat → va_E) (hTH : TH cI cJ cZ cD cR cT kp L f0) (sz : Nat) (h0 : Nat) (u1 : Int32) (rh0 : RK kp L h0 12) (pu1 : (684 : Int) ≤ u1.toInt ∧ u1.toInt ≤ 1038) (hw6 : (u1.toInt - 684) % 6 = 0) (hTX : TX (aI (f0 (oR (f0 h0) 2)))) : Met l yX12_goWrit (Cond.code yX12_goWrit cX12_goWrit 4 none :: wTab) ({ frames := 4, cells := 0, slots := 0, locals := 106 }) (va_Pc [.ref h0, .int u1] (PreW G (tys6 cI cJ cZ cD cR cT) (va_pl L f0) sz)) (QT (po_X12_goWrit kp L f0 h0 u1) G cI cJ cZ cD cR cT (va_A (va_pl L f0) sz) kp L) 0 0 (va_A (va_pl L f0) sz) := by
  refine metT (by decide) (Nat.le_of_ble_eq_true rfl) hTH ?_
  intro p e s m below meth c A ls E hW hl
  obtain ⟨hx, hb, -, hml, hown, hts, -, -, -⟩ := id E
  have hF : FM kp L ms_X12_goWrit f0 f0 := FM.rf
  have hl : lv_has ls 4 [(0, .ref h0), (1, .int u1)] := hl
  obtain ⟨pR, mR⟩ : ∃ x : Nat, oR (f0 h0) 2 = x := ⟨_, rfl⟩
  have rR : RK kp L pR 822 := by rw [← mR]; exact th_ref hTH rh0 (by decide) (by decide) rfl
  rw [mR] at hTX
  refine lv_aload_n hx hb dX12_goWrit_0 rfl (lv_at hl 0 rfl) ?_
  refine fg_RX12_8 E hW rh0 dX12_goWrit_1 (fun a1 m2 r3 => ?_)
  obtain rfl : pR = a1 := (mR).symm.trans m2
  refine lv_iload_n hx hb dX12_goWrit_4 rfl (lv_at hl 1 rfl) ?_
  refine gl_822 E hW rR ⟨by omega, by omega⟩ dX12_goWrit_5 (fun y4 m5 b6 => ?_)
  have b7 := rr_wfld (show RowInv _ from b6) m5 (by omega)
  refine t_callS (As := [.int y4]) (rest := []) E hW (c_X12_fieldAt l G cI cJ cZ cD cR cT kp L f0 hW.2.2.2 _ y4 (by omega)) wk_X12_fieldAt tw_1624 rfl ⟨Nat.le_of_ble_eq_true rfl, Nat.le_of_ble_eq_true rfl⟩ ⟨rfl, rfl⟩ hl.1 rfl (Nat.le_of_ble_eq_true rfl) dX12_goWrit_6 ⟨Nat.le_of_ble_eq_true rfl, Nat.le_of_ble_eq_true rfl⟩ (fun v8 f9 H locs q10 hW => ?_)
  obtain ⟨⟨x12, rfl, p13⟩, g11⟩ := q10
  have z14 : RF rw_X12_goWrit f0 f9 h0 := rf_fm hTH rf_rf g11 rh0 rfl
  have hF := FM.tr hF g11 rfl
  refine lv_istore_n (lv' := [(2, .int x12), (0, .ref h0), (1, .int u1)]) hx hb dX12_goWrit_9 rfl hl (by decide) rfl (fun ls hl => ?_)
  refine lv_aload_n hx hb dX12_goWrit_10 rfl (lv_at hl 1 rfl) ?_
  refine fg_RX12_8 E hW rh0 dX12_goWrit_11 (fun a15 m16 r17 => ?_)
  obtain rfl : pR = a15 := (((fm_R g11 rh0 rfl).trans m2)).symm.trans m16
  refine lv_iload_n hx hb dX12_goWrit_14 rfl (lv_at hl 0 rfl) ?_
  refine lv_iconst (v := 4) hx hb dX12_goWrit_15 (by decide) ?_
  refine q_iadd (Y := 4) hx hb dX12_goWrit_16 rfl rfl (by omega) (fun x18 h19 => ?_)
  refine gl_822 E hW rR ⟨by omega, by omega⟩ dX12_goWrit_17 (fun y20 m21 b22 => ?_)
  refine q_if_eq (tgt := 40) hx hb dX12_goWrit_18 (by decide) rfl (fun c23 => ?_) (fun c23 => ?_)
  · refine lv_aload_n hx hb dX12_goWrit_40 rfl (lv_at hl 1 rfl) ?_
    refine fg_RX12_8 E hW rh0 dX12_goWrit_41 (fun a24 m25 r26 => ?_)
    obtain rfl : pR = a24 := (m16).symm.trans m25
    refine lv_iload_n hx hb dX12_goWrit_44 rfl (lv_at hl 2 rfl) ?_
    refine lv_iconst (v := 5) hx hb dX12_goWrit_45 (by decide) ?_
    refine q_iadd (Y := 5) hx hb dX12_goWrit_46 rfl rfl (by omega) (fun x27 h28 => ?_)
    refine lv_iconst (v := 1) hx hb dX12_goWrit_47 (by decide) ?_
    have hk29 : (1 : Int32).toInt = 1 := rfl
    refine gs_822 E hW rR ⟨by omega, by omega⟩ (fun hc => rr_up hc (by omega) (by omega) (by unfold rbI; omega)) dX12_goWrit_48 (fun f30 H locs e31 n32 g33 hW => ?_)
    have z34 : RF rw_X12_goWrit f0 f30 h0 := rf_st (lo := 689) (hi := 1043) z14 mR e31 (by omega) rfl
    have hF := FM.tr hF g33 rfl
    exact e_V E hW rfl ⟨rfl, hF, z34⟩ dX12_goWrit_49
  · refine lv_aload_n hx hb dX12_goWrit_21 rfl (lv_at hl 1 rfl) ?_
    refine fg_RX12_8 E hW rh0 dX12_goWrit_22 (fun a35 m36 r37 => ?_)
    obtain rfl : pR = a35 := (m16).symm.trans m36
    refine lv_iload_n hx hb dX12_goWrit_25 rfl (lv_at hl 0 rfl) ?_
    refine lv_iconst (v := 3) hx hb dX12_goWrit_26 (by decide) ?_
    refine q_iadd (Y := 3) hx hb dX12_goWrit_27 rfl rfl (by omega) (fun x38 h39 => ?_)
    refine gl_822 E hW rR ⟨by omega, by omega⟩ dX12_goWrit_28 (fun y40 m41 b42 => ?_)
    have b43 := rr_fhol (show RowInv _ from b42) m41 (by omega)
    refine lv_aload_n hx hb dX12_goWrit_29 rfl (lv_at hl 1 rfl) ?_
    refine fg_RX12_8 E hW rh0 dX12_goWrit_30 (fun a44 m45 r46 => ?_)
    obtain rfl : pR = a44 := (m36).symm.trans m45
    refine lv_iload_n hx hb dX12_goWrit_33 rfl (lv_at hl 2 rfl) ?_
    refine lv_iconst (v := 1) hx hb dX12_goWrit_34 (by decide) ?_
    refine q_iadd (Y := 1) hx hb dX12_goWrit_35 rfl rfl (by omega) (fun x47 h48 => ?_)
    refine gl_822 E hW rR ⟨by omega, by omega⟩ dX12_goWrit_36 (fun y49 m50 b51 => ?_)
    refine q_icmp_eq (tgt := 50) hx hb dX12_goWrit_37 (by decide) rfl rfl (fun c52 => ?_) (fun c52 => ?_)
    · refine lv_aload_n hx hb dX12_goWrit_50 rfl (lv_at hl 1 rfl) ?_
      refine fg_RX12_8 E hW rh0 dX12_goWrit_51 (fun a53 m54 r55 => ?_)
      obtain rfl : pR = a53 := (m45).symm.trans m54
      refine lv_iload_n hx hb dX12_goWrit_54 rfl (lv_at hl 2 rfl) ?_
      refine lv_iconst (v := 4) hx hb dX12_goWrit_55 (by decide) ?_
      refine q_iadd (Y := 4) hx hb dX12_goWrit_56 rfl rfl (by omega) (fun x56 h57 => ?_)
      refine gl_822 E hW rR ⟨by omega, by omega⟩ dX12_goWrit_57 (fun y58 m59 b60 => ?_)
      refine lv_aload_n hx hb dX12_goWrit_58 rfl (lv_at hl 1 rfl) ?_
      refine fg_RX12_8 E hW rh0 dX12_goWrit_59 (fun a61 m62 r63 => ?_)
      obtain rfl : pR = a61 := (m54).symm.trans m62
      refine lv_bipush (v := 8) hx hb dX12_goWrit_62 (by decide) ?_
      refine gl_822 E hW rR (by decide) dX12_goWrit_64 (fun y64 m65 b66 => ?_)
      have b67 := rr_8 (show RowInv _ from b66) m65 (by decide)
      refine q_icmp_eq (tgt := 81) hx hb dX12_goWrit_65 (by decide) rfl rfl (fun c68 => ?_) (fun c68 => ?_)
      · exact e_V E hW rfl ⟨rfl, hF, z14⟩ dX12_goWrit_81
      · refine lv_aload_n hx hb dX12_goWrit_68 rfl (lv_at hl 1 rfl) ?_
        refine lv_aload_n hx hb dX12_goWrit_69 rfl (lv_at hl 1 rfl) ?_
        refine fg_RX12_8 E hW rh0 dX12_goWrit_70 (fun a69 m70 r71 => ?_)
        obtain rfl : pR = a69 := (m62).symm.trans m70
        refine lv_iload_n hx hb dX12_goWrit_73 rfl (lv_at hl 2 rfl) ?_
        refine gl_822 E hW rR ⟨by omega, by omega⟩ dX12_goWrit_74 (fun y72 m73 b74 => ?_)
        obtain rfl : y4 = y72 := (((congrArg (fun z => aI z (u1 : Int32).toNatClampNeg) (fm_A g11 rR (by decide) rfl)).trans m5)).symm.trans m73
        refine t_callV (As := [.int y4]) (rest := []) E hW (c_X12_isGuarded l G cI cJ cZ cD cR cT kp L f9 hW.2.2.2 _ h0 y4 rh0 (by omega)) rh0 (by decide) rfl wk_X12_isGuarded tw_1946 rfl ⟨Nat.le_of_ble_eq_true rfl, Nat.le_of_ble_eq_true rfl⟩ ⟨rfl, rfl⟩ hl.1 rfl (Nat.le_of_ble_eq_true rfl) dX12_goWrit_75 ⟨Nat.le_of_ble_eq_true rfl, Nat.le_of_ble_eq_true rfl⟩ (fun v75 f76 H locs q77 hW => ?_)
        obtain ⟨⟨x79, rfl, p80⟩, g78⟩ := q77
        have z81 : RF rw_X12_goWrit f0 f76 h0 := rf_fm hTH z14 g78 rh0 rfl
        have hF := FM.tr hF g78 rfl
        refine q_if_eq (tgt := 82) hx hb dX12_goWrit_78 (by decide) rfl (fun c82 => ?_) (fun c82 => ?_)
        · refine lv_aload_n hx hb dX12_goWrit_82 rfl (lv_at hl 1 rfl) ?_
          refine fg_RX12_8 E hW rh0 dX12_goWrit_83 (fun a83 m84 r85 => ?_)
          obtain rfl : pR = a83 := (((fm_R g78 rh0 rfl).trans m70)).symm.trans m84
          refine lv_iload_n hx hb dX12_goWrit_86 rfl (lv_at hl 2 rfl) ?_
          refine lv_iconst (v := 3) hx hb dX12_goWrit_87 (by decide) ?_
          refine q_iadd (Y := 3) hx hb dX12_goWrit_88 rfl rfl (by omega) (fun x86 h87 => ?_)
          refine lv_dup2_11 hx hb dX12_goWrit_89 rfl rfl ?_
          refine gl_822 E hW rR ⟨by omega, by omega⟩ dX12_goWrit_90 (fun y88 m89 b90 => ?_)
          refine lv_iconst (v := 1) hx hb dX12_goWrit_91 (by decide) ?_
          refine u_isub hx hb dX12_goWrit_92 (fun x91 => ?_)
          refine gs_822 E hW rR ⟨by omega, by omega⟩ (fun hc => rr_up hc (by omega) (by omega) (by unfold rbI; omega)) dX12_goWrit_93 (fun f92 H locs e93 n94 g95 hW => ?_)
          have z96 : RF rw_X12_goWrit f0 f92 h0 := rf_st (lo := 687) (hi := 1041) z81 mR e93 (by omega) rfl
          have hF := FM.tr hF g95 rfl
          refine lv_aload_n hx hb dX12_goWrit_94 rfl (lv_at hl 1 rfl) ?_
          refine fg_RX12_8 E hW rh0 dX12_goWrit_95 (fun a97 m98 r99 => ?_)
          obtain rfl : pR = a97 := (((fm_R g95 rh0 rfl).trans m84)).symm.trans m98
          refine lv_iload_n hx hb dX12_goWrit_98 rfl (lv_at hl 2 rfl) ?_
          refine lv_iconst (v := 3) hx hb dX12_goWrit_99 (by decide) ?_
          refine q_iadd (Y := 3) hx hb dX12_goWrit_100 rfl rfl (by omega) (fun x100 h101 => ?_)
          refine gl_822 E hW rR ⟨by omega, by omega⟩ dX12_goWrit_101 (fun y102 m103 b104 => ?_)
          have m105 : aI (f92 pR) (x100 : Int32).toNatClampNeg = x91 := by rw [show (x100 : Int32) = x86 from Int32.toInt_inj.mp (by omega)]; exact (show aI (f92 pR) (x86 : Int32).toNatClampNeg = x91 from by rw [e93]; exact up_s)
          obtain rfl : x91 = y102 := (m105).symm.trans m103
          refine q_if_le (tgt := 106) hx hb dX12_goWrit_102 (by decide) rfl (fun c106 => ?_) (fun c106 => ?_)
          · refine lv_aload_n hx hb dX12_goWrit_106 rfl (lv_at hl 1 rfl) ?_
            refine fg_RX12_8 E hW rh0 dX12_goWrit_107 (fun a107 m108 r109 => ?_)
            obtain rfl : pR = a107 := (m98).symm.trans m108
            refine lv_iload_n hx hb dX12_goWrit_110 rfl (lv_at hl 2 rfl) ?_
            refine lv_iconst (v := 2) hx hb dX12_goWrit_111 (by decide) ?_
            refine q_iadd (Y := 2) hx hb dX12_goWrit_112 rfl rfl (by omega) (fun x110 h111 => ?_)
            refine lv_dup2_11 hx hb dX12_goWrit_113 rfl rfl ?_
            refine gl_822 E hW rR ⟨by omega, by omega⟩ dX12_goWrit_114 (fun y112 m113 b114 => ?_)
            refine lv_iconst (v := 1) hx hb dX12_goWrit_115 (by decide) ?_
            refine u_iadd hx hb dX12_goWrit_116 (fun x115 => ?_)
            refine gs_822 E hW rR ⟨by omega, by omega⟩ (fun hc => rr_up hc (by omega) (by omega) (by unfold rbI; omega)) dX12_goWrit_117 (fun f116 H locs e117 n118 g119 hW => ?_)
            have z120 : RF rw_X12_goWrit f0 f116 h0 := rf_st (lo := 686) (hi := 1040) z96 mR e117 (by omega) rfl
            have hF := FM.tr hF g119 rfl
            refine lv_aload_n hx hb dX12_goWrit_118 rfl (lv_at hl 1 rfl) ?_
            refine fg_RX12_8 E hW rh0 dX12_goWrit_119 (fun a121 m122 r123 => ?_)
            obtain rfl : pR = a121 := (((fm_R g119 rh0 rfl).trans m108)).symm.trans m122
            refine lv_iload_n hx hb dX12_goWrit_122 rfl (lv_at hl 2 rfl) ?_
            refine lv_iconst (v := 2) hx hb dX12_goWrit_123 (by decide) ?_
            refine q_iadd (Y := 2) hx hb dX12_goWrit_124 rfl rfl (by omega) (fun x124 h125 => ?_)
            refine gl_822 E hW rR ⟨by omega, by omega⟩ dX12_goWrit_125 (fun y126 m127 b128 => ?_)
            have m129 : aI (f116 pR) (x124 : Int32).toNatClampNeg = x115 := by rw [show (x124 : Int32) = x110 from Int32.toInt_inj.mp (by omega)]; exact (show aI (f116 pR) (x110 : Int32).toNatClampNeg = x115 from by rw [e117]; exact up_s)
            obtain rfl : x115 = y126 := (m129).symm.trans m127
            refine lv_iconst (v := 4) hx hb dX12_goWrit_126 (by decide) ?_
            refine q_icmp_ge (Y := 4) (tgt := 151) hx hb dX12_goWrit_127 (by decide) rfl rfl (fun c130 => ?_) (fun c130 => ?_)
            · refine lv_aload_n hx hb dX12_goWrit_151 rfl (lv_at hl 1 rfl) ?_
              refine fg_RX12_8 E hW rh0 dX12_goWrit_152 (fun a131 m132 r133 => ?_)
              obtain rfl : pR = a131 := (m122).symm.trans m132
              refine lv_iload_n hx hb dX12_goWrit_155 rfl (lv_at hl 2 rfl) ?_
              refine lv_iconst (v := 5) hx hb dX12_goWrit_156 (by decide) ?_
              refine q_iadd (Y := 5) hx hb dX12_goWrit_157 rfl rfl (by omega) (fun x134 h135 => ?_)
              refine lv_iconst (v := 1) hx hb dX12_goWrit_158 (by decide) ?_
              have hk136 : (1 : Int32).toInt = 1 := rfl
              refine gs_822 E hW rR ⟨by omega, by omega⟩ (fun hc => rr_up hc (by omega) (by omega) (by unfold rbI; omega)) dX12_goWrit_159 (fun f137 H locs e138 n139 g140 hW => ?_)
              have z141 : RF rw_X12_goWrit f0 f137 h0 := rf_st (lo := 689) (hi := 1043) z120 mR e138 (by omega) rfl
              have hF := FM.tr hF g140 rfl
              refine lv_aload_n hx hb dX12_goWrit_160 rfl (lv_at hl 1 rfl) ?_
              refine lv_dup hx hb dX12_goWrit_161 rfl ?_
              refine fg_RX12_461 E hW rh0 dX12_goWrit_162 (fun y142 m143 => ?_)
              refine lv_iconst (v := 1) hx hb dX12_goWrit_165 (by decide) ?_
              refine u_iadd hx hb dX12_goWrit_166 (fun x145 => ?_)
              refine fp_RX12_461 E hW rh0 dX12_goWrit_167 (fun f146 H locs e147 n148 g149 hW => ?_)
              have m150 : aI (f146 pR) (u1 : Int32).toNatClampNeg = y4 := ((congrArg (fun z => aI z (u1 : Int32).toNatClampNeg) (fm_A g149 rR (by decide) rfl)).trans (show aI (f137 pR) (u1 : Int32).toNatClampNeg = y4 from by rw [e138, up_n (tn_ne (by omega) (by omega) (by omega))]; exact (show aI (f116 pR) (u1 : Int32).toNatClampNeg = y4 from by rw [e117, up_n (tn_ne (by omega) (by omega) (by omega))]; exact (show aI (f92 pR) (u1 : Int32).toNatClampNeg = y4 from by rw [e93, up_n (tn_ne (by omega) (by omega) (by omega))]; exact ((congrArg (fun z => aI z (u1 : Int32).toNatClampNeg) (fm_A g78 rR (by decide) rfl)).trans m73)))))
              have m151 : aI (f146 pR) (x18 : Int32).toNatClampNeg = y20 := ((congrArg (fun z => aI z (x18 : Int32).toNatClampNeg) (fm_A g149 rR (by decide) rfl)).trans (show aI (f137 pR) (x18 : Int32).toNatClampNeg = y20 from by rw [e138, up_n (tn_ne (by omega) (by omega) (by omega))]; exact (show aI (f116 pR) (x18 : Int32).toNatClampNeg = y20 from by rw [e117, up_n (tn_ne (by omega) (by omega) (by omega))]; exact (show aI (f92 pR) (x18 : Int32).toNatClampNeg = y20 from by rw [e93, up_n (tn_ne (by omega) (by omega) (by omega))]; exact ((congrArg (fun z => aI z (x18 : Int32).toNatClampNeg) (fm_A g78 rR (by decide) rfl)).trans m21)))))
              have m152 : aI (f146 pR) (x38 : Int32).toNatClampNeg = y40 := ((congrArg (fun z => aI z (x38 : Int32).toNatClampNeg) (fm_A g149 rR (by decide) rfl)).trans (show aI (f137 pR) (x38 : Int32).toNatClampNeg = y40 from by rw [e138, up_n (tn_ne (by omega) (by omega) (by omega))]; exact (show aI (f116 pR) (x38 : Int32).toNatClampNeg = y40 from by rw [e117, up_n (tn_ne (by omega) (by omega) (by omega))]; exact (show aI (f92 pR) (x38 : Int32).toNatClampNeg = y40 from by rw [e93, up_n (tn_ne (by omega) (by omega) (by omega))]; exact ((congrArg (fun z => aI z (x38 : Int32).toNatClampNeg) (fm_A g78 rR (by decide) rfl)).trans m41)))))
              have m153 : aI (f146 pR) (x47 : Int32).toNatClampNeg = y49 := ((congrArg (fun z => aI z (x47 : Int32).toNatClampNeg) (fm_A g149 rR (by decide) rfl)).trans (show aI (f137 pR) (x47 : Int32).toNatClampNeg = y49 from by rw [e138, up_n (tn_ne (by omega) (by omega) (by omega))]; exact (show aI (f116 pR) (x47 : Int32).toNatClampNeg = y49 from by rw [e117, up_n (tn_ne (by omega) (by omega) (by omega))]; exact (show aI (f92 pR) (x47 : Int32).toNatClampNeg = y49 from by rw [e93, up_n (tn_ne (by omega) (by omega) (by omega))]; exact ((congrArg (fun z => aI z (x47 : Int32).toNatClampNeg) (fm_A g78 rR (by decide) rfl)).trans m50)))))
              have m154 : aI (f146 pR) (x56 : Int32).toNatClampNeg = y58 := ((congrArg (fun z => aI z (x56 : Int32).toNatClampNeg) (fm_A g149 rR (by decide) rfl)).trans (show aI (f137 pR) (x56 : Int32).toNatClampNeg = y58 from by rw [e138, up_n (tn_ne (by omega) (by omega) (by omega))]; exact (show aI (f116 pR) (x56 : Int32).toNatClampNeg = y58 from by rw [e117, up_n (tn_ne (by omega) (by omega) (by omega))]; exact (show aI (f92 pR) (x56 : Int32).toNatClampNeg = y58 from by rw [e93, up_n (tn_ne (by omega) (by omega) (by omega))]; exact ((congrArg (fun z => aI z (x56 : Int32).toNatClampNeg) (fm_A g78 rR (by decide) rfl)).trans m59)))))
              have m155 : aI (f146 pR) (8 : Int32).toNatClampNeg = y64 := ((congrArg (fun z => aI z (8 : Int32).toNatClampNeg) (fm_A g149 rR (by decide) rfl)).trans (show aI (f137 pR) (8 : Int32).toNatClampNeg = y64 from by rw [e138, up_n (tn_ne (by omega) (by decide) (by have hk0 : (8 : Int32).toInt = 8 := rfl; omega))]; exact (show aI (f116 pR) (8 : Int32).toNatClampNeg = y64 from by rw [e117, up_n (tn_ne (by omega) (by decide) (by have hk0 : (8 : Int32).toInt = 8 := rfl; omega))]; exact (show aI (f92 pR) (8 : Int32).toNatClampNeg = y64 from by rw [e93, up_n (tn_ne (by omega) (by decide) (by have hk0 : (8 : Int32).toInt = 8 := rfl; omega))]; exact ((congrArg (fun z => aI z (8 : Int32).toNatClampNeg) (fm_A g78 rR (by decide) rfl)).trans m65)))))
              have m156 : aI (f146 pR) (x86 : Int32).toNatClampNeg = x91 := ((congrArg (fun z => aI z (x86 : Int32).toNatClampNeg) (fm_A g149 rR (by decide) rfl)).trans (show aI (f137 pR) (x86 : Int32).toNatClampNeg = x91 from by rw [e138, up_n (tn_ne (by omega) (by omega) (by omega))]; exact (show aI (f116 pR) (x86 : Int32).toNatClampNeg = x91 from by rw [e117, up_n (tn_ne (by omega) (by omega) (by omega))]; exact (show aI (f92 pR) (x86 : Int32).toNatClampNeg = x91 from by rw [e93]; exact up_s))))
              have m157 : aI (f146 pR) (x100 : Int32).toNatClampNeg = x91 := ((congrArg (fun z => aI z (x100 : Int32).toNatClampNeg) (fm_A g149 rR (by decide) rfl)).trans (show aI (f137 pR) (x100 : Int32).toNatClampNeg = x91 from by rw [e138, up_n (tn_ne (by omega) (by omega) (by omega))]; exact (show aI (f116 pR) (x100 : Int32).toNatClampNeg = x91 from by rw [e117, up_n (tn_ne (by omega) (by omega) (by omega))]; exact m103)))
              have m158 : aI (f146 pR) (x110 : Int32).toNatClampNeg = x115 := ((congrArg (fun z => aI z (x110 : Int32).toNatClampNeg) (fm_A g149 rR (by decide) rfl)).trans (show aI (f137 pR) (x110 : Int32).toNatClampNeg = x115 from by rw [e138, up_n (tn_ne (by omega) (by omega) (by omega))]; exact (show aI (f116 pR) (x110 : Int32).toNatClampNeg = x115 from by rw [e117]; exact up_s)))
              have m159 : aI (f146 pR) (x124 : Int32).toNatClampNeg = x115 := ((congrArg (fun z => aI z (x124 : Int32).toNatClampNeg) (fm_A g149 rR (by decide) rfl)).trans (show aI (f137 pR) (x124 : Int32).toNatClampNeg = x115 from by rw [e138, up_n (tn_ne (by omega) (by omega) (by omega))]; exact m127))
              have z160 : RF rw_X12_goWrit f0 f146 h0 := rf_fm hTH z141 g149 rh0 rfl
              have hF := FM.tr hF g149 rfl
              refine lv_aload_n hx hb dX12_goWrit_170 rfl (lv_at hl 1 rfl) ?_
              refine fg_RX12_8 E hW rh0 dX12_goWrit_171 (fun a161 m162 r163 => ?_)
              obtain rfl : pR = a161 := (((fm_R g149 rh0 rfl).trans ((fm_R g140 rh0 rfl).trans m132))).symm.trans m162
              refine lv_iload_n hx hb dX12_goWrit_174 rfl (lv_at hl 0 rfl) ?_
              refine lv_iconst (v := 3) hx hb dX12_goWrit_175 (by decide) ?_
              refine q_iadd (Y := 3) hx hb dX12_goWrit_176 rfl rfl (by omega) (fun x164 h165 => ?_)
              refine gl_822 E hW rR ⟨by omega, by omega⟩ dX12_goWrit_177 (fun y166 m167 b168 => ?_)
              have m169 : aI (f146 pR) (x164 : Int32).toNatClampNeg = y40 := by rw [show (x164 : Int32) = x38 from Int32.toInt_inj.mp (by omega)]; exact m152
              obtain rfl : y40 = y166 := (m169).symm.trans m167
              refine lv_istore_n (lv' := [(3, .int y40), (2, .int x12), (0, .ref h0), (1, .int u1)]) hx hb dX12_goWrit_178 rfl hl (by decide) rfl (fun ls hl => ?_)
              refine lv_aload_n hx hb dX12_goWrit_179 rfl (lv_at hl 2 rfl) ?_
              refine fg_RX12_8 E hW rh0 dX12_goWrit_180 (fun a170 m171 r172 => ?_)
              obtain rfl : pR = a170 := (m162).symm.trans m171
              refine lv_iload_n hx hb dX12_goWrit_183 rfl (lv_at hl 1 rfl) ?_
              refine lv_iconst (v := 3) hx hb dX12_goWrit_184 (by decide) ?_
              refine q_iadd (Y := 3) hx hb dX12_goWrit_185 rfl rfl (by omega) (fun x173 h174 => ?_)
              refine lv_iconst (v := (-1)) hx hb dX12_goWrit_186 (by decide) ?_
              have hk175 : ((-1) : Int32).toInt = -1 := rfl
              refine gs_822 E hW rR ⟨by omega, by omega⟩ (fun hc => rr_up hc (by omega) (by omega) (by unfold rbI; omega)) dX12_goWrit_187 (fun f176 H locs e177 n178 g179 hW => ?_)
              have z180 : RF rw_X12_goWrit f0 f176 h0 := rf_st (lo := 367) (hi := 679) z160 mR e177 (by omega) rfl
              have hF := FM.tr hF g179 rfl
              refine lv_aload_n hx hb dX12_goWrit_188 rfl (lv_at hl 2 rfl) ?_
              refine fg_RX12_8 E hW rh0 dX12_goWrit_189 (fun a181 m182 r183 => ?_)
              obtain rfl : pR = a181 := (((fm_R g179 rh0 rfl).trans m171)).symm.trans m182
              refine lv_iload_n hx hb dX12_goWrit_192 rfl (lv_at hl 1 rfl) ?_
              refine lv_iconst (v := 5) hx hb dX12_goWrit_193 (by decide) ?_
              refine q_iadd (Y := 5) hx hb dX12_goWrit_194 rfl rfl (by omega) (fun x184 h185 => ?_)
              refine lv_iconst (v := 0) hx hb dX12_goWrit_195 (by decide) ?_
              have hk186 : (0 : Int32).toInt = 0 := rfl
              refine gs_822 E hW rR ⟨by omega, by omega⟩ (fun hc => rr_up hc (by omega) (by omega) (by unfold rbI; omega)) dX12_goWrit_196 (fun f187 H locs e188 n189 g190 hW => ?_)
              have z191 : RF rw_X12_goWrit f0 f187 h0 := rf_st (lo := 369) (hi := 681) z180 mR e188 (by omega) rfl
              have hF := FM.tr hF g190 rfl
              refine lv_aload_n hx hb dX12_goWrit_197 rfl (lv_at hl 2 rfl) ?_
              refine fg_RX12_8 E hW rh0 dX12_goWrit_198 (fun a192 m193 r194 => ?_)
              obtain rfl : pR = a192 := (((fm_R g190 rh0 rfl).trans m182)).symm.trans m193
              refine lv_iload_n hx hb dX12_goWrit_201 rfl (lv_at hl 1 rfl) ?_
              refine lv_bipush (v := 6) hx hb dX12_goWrit_202 (by decide) ?_
              refine q_iadd (Y := 6) hx hb dX12_goWrit_204 rfl rfl (by omega) (fun x195 h196 => ?_)
              refine lv_iconst (v := 1) hx hb dX12_goWrit_205 (by decide) ?_
              have hk197 : (1 : Int32).toInt = 1 := rfl
              refine gs_822 E hW rR ⟨by omega, by omega⟩ (fun hc => rr_up hc (by omega) (by omega) (by unfold rbI; omega)) dX12_goWrit_206 (fun f198 H locs e199 n200 g201 hW => ?_)
              have z202 : RF rw_X12_goWrit f0 f198 h0 := rf_st (lo := 370) (hi := 682) z191 mR e199 (by omega) rfl
              have hF := FM.tr hF g201 rfl
              refine lv_aload_n hx hb dX12_goWrit_207 rfl (lv_at hl 2 rfl) ?_
              refine lv_iload_n hx hb dX12_goWrit_208 rfl (lv_at hl 0 rfl) ?_
              refine lv_iconst (v := 0) hx hb dX12_goWrit_209 (by decide) ?_
              refine t_callV (As := [.int y40, .int 0]) (rest := []) E hW (c_X12_holdsAny l G cI cJ cZ cD cR cT kp L f198 hW.2.2.2 _ h0 y40 0 rh0 (by omega) (by decide)) rh0 (by decide) rfl wk_X12_holdsAny tw_1681 rfl ⟨Nat.le_of_ble_eq_true rfl, Nat.le_of_ble_eq_true rfl⟩ ⟨rfl, rfl⟩ hl.1 rfl (Nat.le_of_ble_eq_true rfl) dX12_goWrit_210 ⟨Nat.le_of_ble_eq_true rfl, Nat.le_of_ble_eq_true rfl⟩ (fun v203 f204 H locs q205 hW => ?_)
              obtain ⟨⟨x207, rfl, p208⟩, g206⟩ := q205
              have p208 : (0 : Int) ≤ x207.toInt ∧ x207.toInt ≤ 1 := p208
              have m209 : aI (f204 pR) (u1 : Int32).toNatClampNeg = y4 := ((congrArg (fun z => aI z (u1 : Int32).toNatClampNeg) (fm_A g206 rR (by decide) rfl)).trans (show aI (f198 pR) (u1 : Int32).toNatClampNeg = y4 from by rw [e199, up_n (tn_ne (by omega) (by omega) (by omega))]; exact (show aI (f187 pR) (u1 : Int32).toNatClampNeg = y4 from by rw [e188, up_n (tn_ne (by omega) (by omega) (by omega))]; exact (show aI (f176 pR) (u1 : Int32).toNatClampNeg = y4 from by rw [e177, up_n (tn_ne (by omega) (by omega) (by omega))]; exact m150))))
              have m210 : aI (f204 pR) (x18 : Int32).toNatClampNeg = y20 := ((congrArg (fun z => aI z (x18 : Int32).toNatClampNeg) (fm_A g206 rR (by decide) rfl)).trans (show aI (f198 pR) (x18 : Int32).toNatClampNeg = y20 from by rw [e199, up_n (tn_ne (by omega) (by omega) (by omega))]; exact (show aI (f187 pR) (x18 : Int32).toNatClampNeg = y20 from by rw [e188, up_n (tn_ne (by omega) (by omega) (by omega))]; exact (show aI (f176 pR) (x18 : Int32).toNatClampNeg = y20 from by rw [e177, up_n (tn_ne (by omega) (by omega) (by omega))]; exact m151))))
              have m211 : aI (f204 pR) (x47 : Int32).toNatClampNeg = y49 := ((congrArg (fun z => aI z (x47 : Int32).toNatClampNeg) (fm_A g206 rR (by decide) rfl)).trans (show aI (f198 pR) (x47 : Int32).toNatClampNeg = y49 from by rw [e199, up_n (tn_ne (by omega) (by omega) (by omega))]; exact (show aI (f187 pR) (x47 : Int32).toNatClampNeg = y49 from by rw [e188, up_n (tn_ne (by omega) (by omega) (by omega))]; exact (show aI (f176 pR) (x47 : Int32).toNatClampNeg = y49 from by rw [e177, up_n (tn_ne (by omega) (by omega) (by omega))]; exact m153))))
              have m212 : aI (f204 pR) (x56 : Int32).toNatClampNeg = y58 := ((congrArg (fun z => aI z (x56 : Int32).toNatClampNeg) (fm_A g206 rR (by decide) rfl)).trans (show aI (f198 pR) (x56 : Int32).toNatClampNeg = y58 from by rw [e199, up_n (tn_ne (by omega) (by omega) (by omega))]; exact (show aI (f187 pR) (x56 : Int32).toNatClampNeg = y58 from by rw [e188, up_n (tn_ne (by omega) (by omega) (by omega))]; exact (show aI (f176 pR) (x56 : Int32).toNatClampNeg = y58 from by rw [e177, up_n (tn_ne (by omega) (by omega) (by omega))]; exact m154))))
              have m213 : aI (f204 pR) (8 : Int32).toNatClampNeg = y64 := ((congrArg (fun z => aI z (8 : Int32).toNatClampNeg) (fm_A g206 rR (by decide) rfl)).trans (show aI (f198 pR) (8 : Int32).toNatClampNeg = y64 from by rw [e199, up_n (tn_ne (by omega) (by decide) (by have hk0 : (8 : Int32).toInt = 8 := rfl; omega))]; exact (show aI (f187 pR) (8 : Int32).toNatClampNeg = y64 from by rw [e188, up_n (tn_ne (by omega) (by decide) (by have hk0 : (8 : Int32).toInt = 8 := rfl; omega))]; exact (show aI (f176 pR) (8 : Int32).toNatClampNeg = y64 from by rw [e177, up_n (tn_ne (by omega) (by decide) (by have hk0 : (8 : Int32).toInt = 8 := rfl; omega))]; exact m155))))
              have m214 : aI (f204 pR) (x86 : Int32).toNatClampNeg = x91 := ((congrArg (fun z => aI z (x86 : Int32).toNatClampNeg) (fm_A g206 rR (by decide) rfl)).trans (show aI (f198 pR) (x86 : Int32).toNatClampNeg = x91 from by rw [e199, up_n (tn_ne (by omega) (by omega) (by omega))]; exact (show aI (f187 pR) (x86 : Int32).toNatClampNeg = x91 from by rw [e188, up_n (tn_ne (by omega) (by omega) (by omega))]; exact (show aI (f176 pR) (x86 : Int32).toNatClampNeg = x91 from by rw [e177, up_n (tn_ne (by omega) (by omega) (by omega))]; exact m156))))
              have m215 : aI (f204 pR) (x100 : Int32).toNatClampNeg = x91 := ((congrArg (fun z => aI z (x100 : Int32).toNatClampNeg) (fm_A g206 rR (by decide) rfl)).trans (show aI (f198 pR) (x100 : Int32).toNatClampNeg = x91 from by rw [e199, up_n (tn_ne (by omega) (by omega) (by omega))]; exact (show aI (f187 pR) (x100 : Int32).toNatClampNeg = x91 from by rw [e188, up_n (tn_ne (by omega) (by omega) (by omega))]; exact (show aI (f176 pR) (x100 : Int32).toNatClampNeg = x91 from by rw [e177, up_n (tn_ne (by omega) (by omega) (by omega))]; exact m157))))
              have m216 : aI (f204 pR) (x110 : Int32).toNatClampNeg = x115 := ((congrArg (fun z => aI z (x110 : Int32).toNatClampNeg) (fm_A g206 rR (by decide) rfl)).trans (show aI (f198 pR) (x110 : Int32).toNatClampNeg = x115 from by rw [e199, up_n (tn_ne (by omega) (by omega) (by omega))]; exact (show aI (f187 pR) (x110 : Int32).toNatClampNeg = x115 from by rw [e188, up_n (tn_ne (by omega) (by omega) (by omega))]; exact (show aI (f176 pR) (x110 : Int32).toNatClampNeg = x115 from by rw [e177, up_n (tn_ne (by omega) (by omega) (by omega))]; exact m158))))
              have m217 : aI (f204 pR) (x124 : Int32).toNatClampNeg = x115 := ((congrArg (fun z => aI z (x124 : Int32).toNatClampNeg) (fm_A g206 rR (by decide) rfl)).trans (show aI (f198 pR) (x124 : Int32).toNatClampNeg = x115 from by rw [e199, up_n (tn_ne (by omega) (by omega) (by omega))]; exact (show aI (f187 pR) (x124 : Int32).toNatClampNeg = x115 from by rw [e188, up_n (tn_ne (by omega) (by omega) (by omega))]; exact (show aI (f176 pR) (x124 : Int32).toNatClampNeg = x115 from by rw [e177, up_n (tn_ne (by omega) (by omega) (by omega))]; exact m159))))
              have m218 : aI (f204 pR) (x134 : Int32).toNatClampNeg = 1 := ((congrArg (fun z => aI z (x134 : Int32).toNatClampNeg) (fm_A g206 rR (by decide) rfl)).trans (show aI (f198 pR) (x134 : Int32).toNatClampNeg = 1 from by rw [e199, up_n (tn_ne (by omega) (by omega) (by omega))]; exact (show aI (f187 pR) (x134 : Int32).toNatClampNeg = 1 from by rw [e188, up_n (tn_ne (by omega) (by omega) (by omega))]; exact (show aI (f176 pR) (x134 : Int32).toNatClampNeg = 1 from by rw [e177, up_n (tn_ne (by omega) (by omega) (by omega))]; exact ((congrArg (fun z => aI z (x134 : Int32).toNatClampNeg) (fm_A g149 rR (by decide) rfl)).trans (show aI (f137 pR) (x134 : Int32).toNatClampNeg = 1 from by rw [e138]; exact up_s))))))
              have m219 : aI (f204 pR) (x173 : Int32).toNatClampNeg = (-1) := ((congrArg (fun z => aI z (x173 : Int32).toNatClampNeg) (fm_A g206 rR (by decide) rfl)).trans (show aI (f198 pR) (x173 : Int32).toNatClampNeg = (-1) from by rw [e199, up_n (tn_ne (by omega) (by omega) (by omega))]; exact (show aI (f187 pR) (x173 : Int32).toNatClampNeg = (-1) from by rw [e188, up_n (tn_ne (by omega) (by omega) (by omega))]; exact (show aI (f176 pR) (x173 : Int32).toNatClampNeg = (-1) from by rw [e177]; exact up_s))))
              have m220 : aI (f204 pR) (x184 : Int32).toNatClampNeg = 0 := ((congrArg (fun z => aI z (x184 : Int32).toNatClampNeg) (fm_A g206 rR (by decide) rfl)).trans (show aI (f198 pR) (x184 : Int32).toNatClampNeg = 0 from by rw [e199, up_n (tn_ne (by omega) (by omega) (by omega))]; exact (show aI (f187 pR) (x184 : Int32).toNatClampNeg = 0 from by rw [e188]; exact up_s)))
              have z221 : RF rw_X12_goWrit f0 f204 h0 := rf_fm hTH z202 g206 rh0 rfl
              have hF := FM.tr hF g206 rfl
              have J283 : ∀ (f278 : Nat → va_E) (m279 : oR (f278 h0) 2 = pR) (m280 : oI (f278 h0) 38 = x145) (m281 : aI (f278 pR) (8 : Int32).toNatClampNeg = y64) (z282 : RF rw_X12_goWrit f0 f278 h0) (H : Heap) (locs : List Loc) (ls : Array Slot), WS G cI cJ cZ cD cR cT A kp L f278 s H locs → FM kp L ms_X12_goWrit f0 f278 → lv_has ls 4 [(3, .int y40), (2, .int x12), (0, .ref h0), (1, .int u1)] → W p l e ({ frames := 4, cells := 0, slots := 0, locals := 106 }) s m ([.ref h0, .int u1] : List Value).toArray below meth c H locs 0 0 (MQ below (QT (po_X12_goWrit kp L f0 h0 u1) G cI cJ cZ cD cR cT A kp L) ([.ref h0, .int u1] : List Value).toArray s 0 0 A) (F0 m 261 ls []) := by
                intro f278 m279 m280 m281 z282 H locs ls hW hF hl
                clear c23 p80 c82 c106 c130 p208
                exact e_V E hW rfl ⟨rfl, hF, z282⟩ dX12_goWrit_261
              refine q_if_ne (tgt := 261) hx hb dX12_goWrit_213 (by decide) rfl (fun c284 => ?_) (fun c284 => ?_)
              · exact J283 f204 ((fm_R g206 rh0 rfl).trans ((fm_R g201 rh0 rfl).trans m193)) ((fm_I g206 rh0 rfl).trans ((fm_I g201 rh0 rfl).trans ((fm_I g190 rh0 rfl).trans ((fm_I g179 rh0 rfl).trans e147)))) m213 z221 _ _ _ hW hF (lv_sub hl [0, 1, 2, 3] rfl)
              · refine lv_aload_n hx hb dX12_goWrit_216 rfl (lv_at hl 2 rfl) ?_
                refine fg_RX12_8 E hW rh0 dX12_goWrit_217 (fun a285 m286 r287 => ?_)
                obtain rfl : pR = a285 := (((fm_R g206 rh0 rfl).trans ((fm_R g201 rh0 rfl).trans m193))).symm.trans m286
                refine lv_iload_n hx hb dX12_goWrit_220 rfl (lv_at hl 0 rfl) ?_
                refine t_callS (As := [.int y40]) (rest := [.ref pR]) E hW (c_X12_personAt l G cI cJ cZ cD cR cT kp L f204 hW.2.2.2 _ y40 (by omega)) wk_X12_personAt tw_1572 rfl ⟨Nat.le_of_ble_eq_true rfl, Nat.le_of_ble_eq_true rfl⟩ ⟨rfl, rfl⟩ hl.1 rfl (Nat.le_of_ble_eq_true rfl) dX12_goWrit_221 ⟨Nat.le_of_ble_eq_true rfl, Nat.le_of_ble_eq_true rfl⟩ (fun v288 f289 H locs q290 hW => ?_)
                obtain ⟨⟨x292, rfl, p293⟩, g291⟩ := q290
                have m294 : aI (f289 pR) (x195 : Int32).toNatClampNeg = 1 := ((congrArg (fun z => aI z (x195 : Int32).toNatClampNeg) (fm_A g291 rR (by decide) rfl)).trans ((congrArg (fun z => aI z (x195 : Int32).toNatClampNeg) (fm_A g206 rR (by decide) rfl)).trans (show aI (f198 pR) (x195 : Int32).toNatClampNeg = 1 from by rw [e199]; exact up_s)))
                have z295 : RF rw_X12_goWrit f0 f289 h0 := rf_fm hTH z221 g291 rh0 rfl
                have hF := FM.tr hF g291 rfl
                refine lv_iconst (v := 5) hx hb dX12_goWrit_224 (by decide) ?_
                refine q_iadd (Y := 5) hx hb dX12_goWrit_225 rfl rfl (by omega) (fun x296 h297 => ?_)
                refine gl_822 E hW rR ⟨by omega, by omega⟩ dX12_goWrit_226 (fun y298 m299 b300 => ?_)
                refine q_if_ne (tgt := 261) hx hb dX12_goWrit_227 (by decide) rfl (fun c301 => ?_) (fun c301 => ?_)
                · exact J283 f289 ((fm_R g291 rh0 rfl).trans m286) ((fm_I g291 rh0 rfl).trans ((fm_I g206 rh0 rfl).trans ((fm_I g201 rh0 rfl).trans ((fm_I g190 rh0 rfl).trans ((fm_I g179 rh0 rfl).trans e147))))) ((congrArg (fun z => aI z (8 : Int32).toNatClampNeg) (fm_A g291 rR (by decide) rfl)).trans m213) z295 _ _ _ hW hF (lv_sub hl [0, 1, 2, 3] rfl)
                · refine lv_aload_n hx hb dX12_goWrit_230 rfl (lv_at hl 2 rfl) ?_
                  refine fg_RX12_8 E hW rh0 dX12_goWrit_231 (fun a302 m303 r304 => ?_)
                  obtain rfl : pR = a302 := (((fm_R g291 rh0 rfl).trans m286)).symm.trans m303
                  refine lv_iload_n hx hb dX12_goWrit_234 rfl (lv_at hl 0 rfl) ?_
                  refine t_callS (As := [.int y40]) (rest := [.ref pR]) E hW (c_X12_personAt l G cI cJ cZ cD cR cT kp L f289 hW.2.2.2 _ y40 (by omega)) wk_X12_personAt tw_1572 rfl ⟨Nat.le_of_ble_eq_true rfl, Nat.le_of_ble_eq_true rfl⟩ ⟨rfl, rfl⟩ hl.1 rfl (Nat.le_of_ble_eq_true rfl) dX12_goWrit_235 ⟨Nat.le_of_ble_eq_true rfl, Nat.le_of_ble_eq_true rfl⟩ (fun v305 f306 H locs q307 hW => ?_)
                  obtain ⟨⟨x309, rfl, p310⟩, g308⟩ := q307
                  have m311 : aI (f306 pR) (u1 : Int32).toNatClampNeg = y4 := ((congrArg (fun z => aI z (u1 : Int32).toNatClampNeg) (fm_A g308 rR (by decide) rfl)).trans ((congrArg (fun z => aI z (u1 : Int32).toNatClampNeg) (fm_A g291 rR (by decide) rfl)).trans m209))
                  have m312 : aI (f306 pR) (x18 : Int32).toNatClampNeg = y20 := ((congrArg (fun z => aI z (x18 : Int32).toNatClampNeg) (fm_A g308 rR (by decide) rfl)).trans ((congrArg (fun z => aI z (x18 : Int32).toNatClampNeg) (fm_A g291 rR (by decide) rfl)).trans m210))
                  have m313 : aI (f306 pR) (x47 : Int32).toNatClampNeg = y49 := ((congrArg (fun z => aI z (x47 : Int32).toNatClampNeg) (fm_A g308 rR (by decide) rfl)).trans ((congrArg (fun z => aI z (x47 : Int32).toNatClampNeg) (fm_A g291 rR (by decide) rfl)).trans m211))
                  have m314 : aI (f306 pR) (x56 : Int32).toNatClampNeg = y58 := ((congrArg (fun z => aI z (x56 : Int32).toNatClampNeg) (fm_A g308 rR (by decide) rfl)).trans ((congrArg (fun z => aI z (x56 : Int32).toNatClampNeg) (fm_A g291 rR (by decide) rfl)).trans m212))
                  have m315 : aI (f306 pR) (8 : Int32).toNatClampNeg = y64 := ((congrArg (fun z => aI z (8 : Int32).toNatClampNeg) (fm_A g308 rR (by decide) rfl)).trans ((congrArg (fun z => aI z (8 : Int32).toNatClampNeg) (fm_A g291 rR (by decide) rfl)).trans m213))
                  have m316 : aI (f306 pR) (x86 : Int32).toNatClampNeg = x91 := ((congrArg (fun z => aI z (x86 : Int32).toNatClampNeg) (fm_A g308 rR (by decide) rfl)).trans ((congrArg (fun z => aI z (x86 : Int32).toNatClampNeg) (fm_A g291 rR (by decide) rfl)).trans m214))
                  have m317 : aI (f306 pR) (x100 : Int32).toNatClampNeg = x91 := ((congrArg (fun z => aI z (x100 : Int32).toNatClampNeg) (fm_A g308 rR (by decide) rfl)).trans ((congrArg (fun z => aI z (x100 : Int32).toNatClampNeg) (fm_A g291 rR (by decide) rfl)).trans m215))
                  have m318 : aI (f306 pR) (x110 : Int32).toNatClampNeg = x115 := ((congrArg (fun z => aI z (x110 : Int32).toNatClampNeg) (fm_A g308 rR (by decide) rfl)).trans ((congrArg (fun z => aI z (x110 : Int32).toNatClampNeg) (fm_A g291 rR (by decide) rfl)).trans m216))
                  have m319 : aI (f306 pR) (x124 : Int32).toNatClampNeg = x115 := ((congrArg (fun z => aI z (x124 : Int32).toNatClampNeg) (fm_A g308 rR (by decide) rfl)).trans ((congrArg (fun z => aI z (x124 : Int32).toNatClampNeg) (fm_A g291 rR (by decide) rfl)).trans m217))
                  have m320 : aI (f306 pR) (x134 : Int32).toNatClampNeg = 1 := ((congrArg (fun z => aI z (x134 : Int32).toNatClampNeg) (fm_A g308 rR (by decide) rfl)).trans ((congrArg (fun z => aI z (x134 : Int32).toNatClampNeg) (fm_A g291 rR (by decide) rfl)).trans m218))
                  have m321 : aI (f306 pR) (x173 : Int32).toNatClampNeg = (-1) := ((congrArg (fun z => aI z (x173 : Int32).toNatClampNeg) (fm_A g308 rR (by decide) rfl)).trans ((congrArg (fun z => aI z (x173 : Int32).toNatClampNeg) (fm_A g291 rR (by decide) rfl)).trans m219))
                  have m322 : aI (f306 pR) (x184 : Int32).toNatClampNeg = 0 := ((congrArg (fun z => aI z (x184 : Int32).toNatClampNeg) (fm_A g308 rR (by decide) rfl)).trans ((congrArg (fun z => aI z (x184 : Int32).toNatClampNeg) (fm_A g291 rR (by decide) rfl)).trans m220))
                  have z323 : RF rw_X12_goWrit f0 f306 h0 := rf_fm hTH z295 g308 rh0 rfl
                  have hF := FM.tr hF g308 rfl
                  refine lv_iconst (v := 5) hx hb dX12_goWrit_238 (by decide) ?_
                  refine q_iadd (Y := 5) hx hb dX12_goWrit_239 rfl rfl (by omega) (fun x324 h325 => ?_)
                  refine lv_iconst (v := 1) hx hb dX12_goWrit_240 (by decide) ?_
                  have hk326 : (1 : Int32).toInt = 1 := rfl
                  refine gs_822 E hW rR ⟨by omega, by omega⟩ (fun hc => rr_up hc (by omega) (by omega) (by unfold rbI; omega)) dX12_goWrit_241 (fun f327 H locs e328 n329 g330 hW => ?_)
                  have m331 : oI (f327 h0) 38 = x145 := ((fm_I g330 rh0 rfl).trans ((fm_I g308 rh0 rfl).trans ((fm_I g291 rh0 rfl).trans ((fm_I g206 rh0 rfl).trans ((fm_I g201 rh0 rfl).trans ((fm_I g190 rh0 rfl).trans ((fm_I g179 rh0 rfl).trans e147)))))))
                  have z332 : RF rw_X12_goWrit f0 f327 h0 := rf_st (lo := 17) (hi := 337) z323 mR e328 (by omega) rfl
                  have hF := FM.tr hF g330 rfl
                  refine lv_aload_n hx hb dX12_goWrit_242 rfl (lv_at hl 2 rfl) ?_
                  refine fg_RX12_8 E hW rh0 dX12_goWrit_243 (fun a333 m334 r335 => ?_)
                  obtain rfl : pR = a333 := (((fm_R g330 rh0 rfl).trans ((fm_R g308 rh0 rfl).trans m303))).symm.trans m334
                  refine lv_iload_n hx hb dX12_goWrit_246 rfl (lv_at hl 0 rfl) ?_
                  refine t_callS (As := [.int y40]) (rest := [.ref pR]) E hW (c_X12_personAt l G cI cJ cZ cD cR cT kp L f327 hW.2.2.2 _ y40 (by omega)) wk_X12_personAt tw_1572 rfl ⟨Nat.le_of_ble_eq_true rfl, Nat.le_of_ble_eq_true rfl⟩ ⟨rfl, rfl⟩ hl.1 rfl (Nat.le_of_ble_eq_true rfl) dX12_goWrit_247 ⟨Nat.le_of_ble_eq_true rfl, Nat.le_of_ble_eq_true rfl⟩ (fun v336 f337 H locs q338 hW => ?_)
                  obtain ⟨⟨x340, rfl, p341⟩, g339⟩ := q338
                  have m342 : aI (f337 pR) (u1 : Int32).toNatClampNeg = y4 := ((congrArg (fun z => aI z (u1 : Int32).toNatClampNeg) (fm_A g339 rR (by decide) rfl)).trans (show aI (f327 pR) (u1 : Int32).toNatClampNeg = y4 from by rw [e328, up_n (tn_ne (by omega) (by omega) (by omega))]; exact m311))
                  have m343 : aI (f337 pR) (x18 : Int32).toNatClampNeg = y20 := ((congrArg (fun z => aI z (x18 : Int32).toNatClampNeg) (fm_A g339 rR (by decide) rfl)).trans (show aI (f327 pR) (x18 : Int32).toNatClampNeg = y20 from by rw [e328, up_n (tn_ne (by omega) (by omega) (by omega))]; exact m312))
                  have m344 : aI (f337 pR) (x47 : Int32).toNatClampNeg = y49 := ((congrArg (fun z => aI z (x47 : Int32).toNatClampNeg) (fm_A g339 rR (by decide) rfl)).trans (show aI (f327 pR) (x47 : Int32).toNatClampNeg = y49 from by rw [e328, up_n (tn_ne (by omega) (by omega) (by omega))]; exact m313))
                  have m345 : aI (f337 pR) (x56 : Int32).toNatClampNeg = y58 := ((congrArg (fun z => aI z (x56 : Int32).toNatClampNeg) (fm_A g339 rR (by decide) rfl)).trans (show aI (f327 pR) (x56 : Int32).toNatClampNeg = y58 from by rw [e328, up_n (tn_ne (by omega) (by omega) (by omega))]; exact m314))
                  have m346 : aI (f337 pR) (8 : Int32).toNatClampNeg = y64 := ((congrArg (fun z => aI z (8 : Int32).toNatClampNeg) (fm_A g339 rR (by decide) rfl)).trans (show aI (f327 pR) (8 : Int32).toNatClampNeg = y64 from by rw [e328, up_n (tn_ne (by omega) (by decide) (by have hk0 : (8 : Int32).toInt = 8 := rfl; omega))]; exact m315))
                  have m347 : aI (f337 pR) (x86 : Int32).toNatClampNeg = x91 := ((congrArg (fun z => aI z (x86 : Int32).toNatClampNeg) (fm_A g339 rR (by decide) rfl)).trans (show aI (f327 pR) (x86 : Int32).toNatClampNeg = x91 from by rw [e328, up_n (tn_ne (by omega) (by omega) (by omega))]; exact m316))
                  have m348 : aI (f337 pR) (x100 : Int32).toNatClampNeg = x91 := ((congrArg (fun z => aI z (x100 : Int32).toNatClampNeg) (fm_A g339 rR (by decide) rfl)).trans (show aI (f327 pR) (x100 : Int32).toNatClampNeg = x91 from by rw [e328, up_n (tn_ne (by omega) (by omega) (by omega))]; exact m317))
                  have m349 : aI (f337 pR) (x110 : Int32).toNatClampNeg = x115 := ((congrArg (fun z => aI z (x110 : Int32).toNatClampNeg) (fm_A g339 rR (by decide) rfl)).trans (show aI (f327 pR) (x110 : Int32).toNatClampNeg = x115 from by rw [e328, up_n (tn_ne (by omega) (by omega) (by omega))]; exact m318))
                  have m350 : aI (f337 pR) (x124 : Int32).toNatClampNeg = x115 := ((congrArg (fun z => aI z (x124 : Int32).toNatClampNeg) (fm_A g339 rR (by decide) rfl)).trans (show aI (f327 pR) (x124 : Int32).toNatClampNeg = x115 from by rw [e328, up_n (tn_ne (by omega) (by omega) (by omega))]; exact m319))
                  have m351 : aI (f337 pR) (x134 : Int32).toNatClampNeg = 1 := ((congrArg (fun z => aI z (x134 : Int32).toNatClampNeg) (fm_A g339 rR (by decide) rfl)).trans (show aI (f327 pR) (x134 : Int32).toNatClampNeg = 1 from by rw [e328, up_n (tn_ne (by omega) (by omega) (by omega))]; exact m320))
                  have m352 : aI (f337 pR) (x173 : Int32).toNatClampNeg = (-1) := ((congrArg (fun z => aI z (x173 : Int32).toNatClampNeg) (fm_A g339 rR (by decide) rfl)).trans (show aI (f327 pR) (x173 : Int32).toNatClampNeg = (-1) from by rw [e328, up_n (tn_ne (by omega) (by omega) (by omega))]; exact m321))
                  have m353 : aI (f337 pR) (x184 : Int32).toNatClampNeg = 0 := ((congrArg (fun z => aI z (x184 : Int32).toNatClampNeg) (fm_A g339 rR (by decide) rfl)).trans (show aI (f327 pR) (x184 : Int32).toNatClampNeg = 0 from by rw [e328, up_n (tn_ne (by omega) (by omega) (by omega))]; exact m322))
                  have m354 : aI (f337 pR) (x195 : Int32).toNatClampNeg = 1 := ((congrArg (fun z => aI z (x195 : Int32).toNatClampNeg) (fm_A g339 rR (by decide) rfl)).trans (show aI (f327 pR) (x195 : Int32).toNatClampNeg = 1 from by rw [e328, up_n (tn_ne (by omega) (by omega) (by omega))]; exact ((congrArg (fun z => aI z (x195 : Int32).toNatClampNeg) (fm_A g308 rR (by decide) rfl)).trans m294)))
                  have z355 : RF rw_X12_goWrit f0 f337 h0 := rf_fm hTH z332 g339 rh0 rfl
                  have hF := FM.tr hF g339 rfl
                  refine lv_bipush (v := 7) hx hb dX12_goWrit_250 (by decide) ?_
                  refine q_iadd (Y := 7) hx hb dX12_goWrit_252 rfl rfl (by omega) (fun x356 h357 => ?_)
                  refine lv_aload_n hx hb dX12_goWrit_253 rfl (lv_at hl 2 rfl) ?_
                  refine fg_RX12_8 E hW rh0 dX12_goWrit_254 (fun a358 m359 r360 => ?_)
                  obtain rfl : pR = a358 := (((fm_R g339 rh0 rfl).trans m334)).symm.trans m359
                  refine lv_bipush (v := 8) hx hb dX12_goWrit_257 (by decide) ?_
                  refine gl_822 E hW rR (by decide) dX12_goWrit_259 (fun y361 m362 b363 => ?_)
                  obtain rfl : y64 = y361 := (m346).symm.trans m362
                  refine gs_822 E hW rR ⟨by omega, by omega⟩ (fun hc => rr_up hc (by omega) (by omega) (by unfold rbI; omega)) dX12_goWrit_260 (fun f364 H locs e365 n366 g367 hW => ?_)
                  have z368 : RF rw_X12_goWrit f0 f364 h0 := rf_st (lo := 19) (hi := 339) z355 mR e365 (by omega) rfl
                  have hF := FM.tr hF g367 rfl
                  exact J283 f364 ((fm_R g367 rh0 rfl).trans m359) ((fm_I g367 rh0 rfl).trans ((fm_I g339 rh0 rfl).trans m331)) (show aI (f364 pR) (8 : Int32).toNatClampNeg = y64 from by rw [e365, up_n (tn_ne (by omega) (by decide) (by have hk0 : (8 : Int32).toInt = 8 := rfl; omega))]; exact m362) z368 _ _ _ hW hF (lv_sub hl [0, 1, 2, 3] rfl)
            · refine lv_aload_n hx hb dX12_goWrit_130 rfl (lv_at hl 1 rfl) ?_
              refine fg_RX12_8 E hW rh0 dX12_goWrit_131 (fun a369 m370 r371 => ?_)
              obtain rfl : pR = a369 := (m122).symm.trans m370
              refine lv_iload_n hx hb dX12_goWrit_134 rfl (lv_at hl 2 rfl) ?_
              refine lv_iconst (v := 3) hx hb dX12_goWrit_135 (by decide) ?_
              refine q_iadd (Y := 3) hx hb dX12_goWrit_136 rfl rfl (by omega) (fun x372 h373 => ?_)
              refine lv_aload_n hx hb dX12_goWrit_137 rfl (lv_at hl 1 rfl) ?_
              refine lv_aload_n hx hb dX12_goWrit_138 rfl (lv_at hl 1 rfl) ?_
              refine fg_RX12_8 E hW rh0 dX12_goWrit_139 (fun a374 m375 r376 => ?_)
              obtain rfl : pR = a374 := (m370).symm.trans m375
              refine lv_iload_n hx hb dX12_goWrit_142 rfl (lv_at hl 2 rfl) ?_
              refine lv_iconst (v := 2) hx hb dX12_goWrit_143 (by decide) ?_
              refine q_iadd (Y := 2) hx hb dX12_goWrit_144 rfl rfl (by omega) (fun x377 h378 => ?_)
              refine gl_822 E hW rR ⟨by omega, by omega⟩ dX12_goWrit_145 (fun y379 m380 b381 => ?_)
              have m382 : aI (f116 pR) (x377 : Int32).toNatClampNeg = x115 := by rw [show (x377 : Int32) = x110 from Int32.toInt_inj.mp (by omega)]; exact (show aI (f116 pR) (x110 : Int32).toNatClampNeg = x115 from by rw [e117]; exact up_s)
              obtain rfl : x115 = y379 := (m382).symm.trans m380
              refine t_callV (As := [.int x115]) (rest := [.int x372, .ref pR]) E hW (c_X12_stepWeeks l G cI cJ cZ cD cR cT kp L f116 hW.2.2.2 _ h0 x115 rh0 (by omega) (by rw [m375]; exact (tx_rf hTX z120 mR rfl rfl))) rh0 (by decide) rfl wk_X12_stepWeeks tw_1938 rfl ⟨Nat.le_of_ble_eq_true rfl, Nat.le_of_ble_eq_true rfl⟩ ⟨rfl, rfl⟩ hl.1 rfl (Nat.le_of_ble_eq_true rfl) dX12_goWrit_146 ⟨Nat.le_of_ble_eq_true rfl, Nat.le_of_ble_eq_true rfl⟩ (fun v383 f384 H locs q385 hW => ?_)
              obtain ⟨⟨x387, rfl, p388⟩, g386⟩ := q385
              clear p388
              have m389 : aI (f384 pR) (u1 : Int32).toNatClampNeg = y4 := ((congrArg (fun z => aI z (u1 : Int32).toNatClampNeg) (fm_A g386 rR (by decide) rfl)).trans (show aI (f116 pR) (u1 : Int32).toNatClampNeg = y4 from by rw [e117, up_n (tn_ne (by omega) (by omega) (by omega))]; exact (show aI (f92 pR) (u1 : Int32).toNatClampNeg = y4 from by rw [e93, up_n (tn_ne (by omega) (by omega) (by omega))]; exact ((congrArg (fun z => aI z (u1 : Int32).toNatClampNeg) (fm_A g78 rR (by decide) rfl)).trans m73))))
              have m390 : aI (f384 pR) (x18 : Int32).toNatClampNeg = y20 := ((congrArg (fun z => aI z (x18 : Int32).toNatClampNeg) (fm_A g386 rR (by decide) rfl)).trans (show aI (f116 pR) (x18 : Int32).toNatClampNeg = y20 from by rw [e117, up_n (tn_ne (by omega) (by omega) (by omega))]; exact (show aI (f92 pR) (x18 : Int32).toNatClampNeg = y20 from by rw [e93, up_n (tn_ne (by omega) (by omega) (by omega))]; exact ((congrArg (fun z => aI z (x18 : Int32).toNatClampNeg) (fm_A g78 rR (by decide) rfl)).trans m21))))
              have m391 : aI (f384 pR) (x38 : Int32).toNatClampNeg = y40 := ((congrArg (fun z => aI z (x38 : Int32).toNatClampNeg) (fm_A g386 rR (by decide) rfl)).trans (show aI (f116 pR) (x38 : Int32).toNatClampNeg = y40 from by rw [e117, up_n (tn_ne (by omega) (by omega) (by omega))]; exact (show aI (f92 pR) (x38 : Int32).toNatClampNeg = y40 from by rw [e93, up_n (tn_ne (by omega) (by omega) (by omega))]; exact ((congrArg (fun z => aI z (x38 : Int32).toNatClampNeg) (fm_A g78 rR (by decide) rfl)).trans m41))))
              have m392 : aI (f384 pR) (x47 : Int32).toNatClampNeg = y49 := ((congrArg (fun z => aI z (x47 : Int32).toNatClampNeg) (fm_A g386 rR (by decide) rfl)).trans (show aI (f116 pR) (x47 : Int32).toNatClampNeg = y49 from by rw [e117, up_n (tn_ne (by omega) (by omega) (by omega))]; exact (show aI (f92 pR) (x47 : Int32).toNatClampNeg = y49 from by rw [e93, up_n (tn_ne (by omega) (by omega) (by omega))]; exact ((congrArg (fun z => aI z (x47 : Int32).toNatClampNeg) (fm_A g78 rR (by decide) rfl)).trans m50))))
              have m393 : aI (f384 pR) (x56 : Int32).toNatClampNeg = y58 := ((congrArg (fun z => aI z (x56 : Int32).toNatClampNeg) (fm_A g386 rR (by decide) rfl)).trans (show aI (f116 pR) (x56 : Int32).toNatClampNeg = y58 from by rw [e117, up_n (tn_ne (by omega) (by omega) (by omega))]; exact (show aI (f92 pR) (x56 : Int32).toNatClampNeg = y58 from by rw [e93, up_n (tn_ne (by omega) (by omega) (by omega))]; exact ((congrArg (fun z => aI z (x56 : Int32).toNatClampNeg) (fm_A g78 rR (by decide) rfl)).trans m59))))
              have m394 : aI (f384 pR) (8 : Int32).toNatClampNeg = y64 := ((congrArg (fun z => aI z (8 : Int32).toNatClampNeg) (fm_A g386 rR (by decide) rfl)).trans (show aI (f116 pR) (8 : Int32).toNatClampNeg = y64 from by rw [e117, up_n (tn_ne (by omega) (by decide) (by have hk0 : (8 : Int32).toInt = 8 := rfl; omega))]; exact (show aI (f92 pR) (8 : Int32).toNatClampNeg = y64 from by rw [e93, up_n (tn_ne (by omega) (by decide) (by have hk0 : (8 : Int32).toInt = 8 := rfl; omega))]; exact ((congrArg (fun z => aI z (8 : Int32).toNatClampNeg) (fm_A g78 rR (by decide) rfl)).trans m65))))
              have m395 : aI (f384 pR) (x86 : Int32).toNatClampNeg = x91 := ((congrArg (fun z => aI z (x86 : Int32).toNatClampNeg) (fm_A g386 rR (by decide) rfl)).trans (show aI (f116 pR) (x86 : Int32).toNatClampNeg = x91 from by rw [e117, up_n (tn_ne (by omega) (by omega) (by omega))]; exact (show aI (f92 pR) (x86 : Int32).toNatClampNeg = x91 from by rw [e93]; exact up_s)))
              have m396 : aI (f384 pR) (x100 : Int32).toNatClampNeg = x91 := ((congrArg (fun z => aI z (x100 : Int32).toNatClampNeg) (fm_A g386 rR (by decide) rfl)).trans (show aI (f116 pR) (x100 : Int32).toNatClampNeg = x91 from by rw [e117, up_n (tn_ne (by omega) (by omega) (by omega))]; exact m103))
              have m397 : aI (f384 pR) (x110 : Int32).toNatClampNeg = x115 := ((congrArg (fun z => aI z (x110 : Int32).toNatClampNeg) (fm_A g386 rR (by decide) rfl)).trans (show aI (f116 pR) (x110 : Int32).toNatClampNeg = x115 from by rw [e117]; exact up_s))
              have z398 : RF rw_X12_goWrit f0 f384 h0 := rf_fm hTH z120 g386 rh0 rfl
              have hF := FM.tr hF g386 rfl
              refine gs_822 E hW rR ⟨by omega, by omega⟩ (fun hc => rr_up hc (by omega) (by omega) (by unfold rbI; omega)) dX12_goWrit_149 (fun f399 H locs e400 n401 g402 hW => ?_)
              have z403 : RF rw_X12_goWrit f0 f399 h0 := rf_st (lo := 687) (hi := 1041) z398 mR e400 (by omega) rfl
              have hF := FM.tr hF g402 rfl
              exact e_V E hW rfl ⟨rfl, hF, z403⟩ dX12_goWrit_150
          · exact e_V E hW rfl ⟨rfl, hF, z96⟩ dX12_goWrit_105
        · exact e_V E hW rfl ⟨rfl, hF, z81⟩ dX12_goWrit_81
    · refine lv_aload_n hx hb dX12_goWrit_40 rfl (lv_at hl 1 rfl) ?_
      refine fg_RX12_8 E hW rh0 dX12_goWrit_41 (fun a404 m405 r406 => ?_)
      obtain rfl : pR = a404 := (m45).symm.trans m405
      refine lv_iload_n hx hb dX12_goWrit_44 rfl (lv_at hl 2 rfl) ?_
      refine lv_iconst (v := 5) hx hb dX12_goWrit_45 (by decide) ?_
      refine q_iadd (Y := 5) hx hb dX12_goWrit_46 rfl rfl (by omega) (fun x407 h408 => ?_)
      refine lv_iconst (v := 1) hx hb dX12_goWrit_47 (by decide) ?_
      have hk409 : (1 : Int32).toInt = 1 := rfl
      refine gs_822 E hW rR ⟨by omega, by omega⟩ (fun hc => rr_up hc (by omega) (by omega) (by unfold rbI; omega)) dX12_goWrit_48 (fun f410 H locs e411 n412 g413 hW => ?_)
      have z414 : RF rw_X12_goWrit f0 f410 h0 := rf_st (lo := 689) (hi := 1043) z14 mR e411 (by omega) rfl
      have hF := FM.tr hF g413 rfl
      exact e_V E hW rfl ⟨rfl, hF, z414⟩ dX12_goWrit_49
def rw_X12_bringCrops : List (Nat × Nat) := [(24, 336)]
def ms_X12_bringCrops : List (Nat × Nat) := [(822, 0)]
def po_X12_bringCrops (kp : Nat → Nat) (L : List Nat) (f0 : Nat → va_E) (h0 : Nat) : Option Value → (Nat → va_E) → Prop := fun v f => v = none ∧ FM kp L ms_X12_bringCrops f0 f ∧ (RF rw_X12_bringCrops f0 f h0)
set_option maxHeartbeats 4000000 in
set_option maxRecDepth 100000 in
theorem c_X12_bringCrops (l : Launch) (G : va_G) (cI cJ cZ cD cR cT : ClassId) (kp : Nat → Nat) (L : List Nat) (f0 : Nat → va_E) (hTH : TH cI cJ cZ cD cR cT kp L f0) (sz : Nat) (h0 : Nat) (rh0 : RK kp L h0 12) : Met l yX12_bringCrops (Cond.code yX12_bringCrops cX12_bringCrops 4 none :: wTab) ({ frames := 2, cells := 0, slots := 0, locals := 60 }) (va_Pc [.ref h0] (PreW G (tys6 cI cJ cZ cD cR cT) (va_pl L f0) sz)) (QT (po_X12_bringCrops kp L f0 h0) G cI cJ cZ cD cR cT (va_A (va_pl L f0) sz) kp L) 0 0 (va_A (va_pl L f0) sz) := by
  refine metT (by decide) (Nat.le_of_ble_eq_true rfl) hTH ?_
  intro p e s m below meth c A ls E hW hl
  obtain ⟨hx, hb, -, hml, hown, hts, -, -, -⟩ := id E
  have hF : FM kp L ms_X12_bringCrops f0 f0 := FM.rf
  have hl : lv_has ls 4 [(0, .ref h0)] := hl
  obtain ⟨pR, mR⟩ : ∃ x : Nat, oR (f0 h0) 2 = x := ⟨_, rfl⟩
  have rR : RK kp L pR 822 := by rw [← mR]; exact th_ref hTH rh0 (by decide) (by decide) rfl
  refine lv_iconst (v := 0) hx hb dX12_bringCrops_0 (by decide) ?_
  refine lv_istore_n (lv' := [(1, .int 0), (0, .ref h0)]) hx hb dX12_bringCrops_1 rfl hl (by decide) rfl (fun ls hl => ?_)
  have L4395 : ∀ (n : Nat), ∀ (f4390 : Nat → va_E) (y4392 : Int32) (m4391 : oR (f4390 h0) 2 = pR) (b4393 : (0 : Int) ≤ y4392.toInt ∧ y4392.toInt ≤ 40) (z4394 : RF rw_X12_bringCrops f0 f4390 h0) (hm : (41 : Int) - y4392.toInt ≤ n) (H : Heap) (locs : List Loc) (ls : Array Slot), WS G cI cJ cZ cD cR cT A kp L f4390 s H locs → FM kp L ms_X12_bringCrops f0 f4390 → lv_has ls 4 [(1, .int y4392), (0, .ref h0)] → W p l e ({ frames := 2, cells := 0, slots := 0, locals := 60 }) s m ([.ref h0] : List Value).toArray below meth c H locs 0 0 (MQ below (QT (po_X12_bringCrops kp L f0 h0) G cI cJ cZ cD cR cT A kp L) ([.ref h0] : List Value).toArray s 0 0 A) (F0 m 2 ls []) := by
    intro n
    induction n with
    | zero =>
      intro f4390 y4392 m4391 b4393 z4394 hm H locs ls hW hF hl
      have hz := i32_b y4392
      exfalso; omega
    | succ n ih =>
      intro f4390 y4392 m4391 b4393 z4394 hm H locs ls hW hF hl
      have ih2 := ih
      refine lv_iload_n hx hb dX12_bringCrops_2 rfl (lv_at hl 0 rfl) ?_
      refine lv_aload_n hx hb dX12_bringCrops_3 rfl (lv_at hl 1 rfl) ?_
      refine fg_RX12_8 E hW rh0 dX12_bringCrops_4 (fun a4396 m4397 r4398 => ?_)
      obtain rfl : pR = a4396 := (m4391).symm.trans m4397
      refine lv_iconst (v := 2) hx hb dX12_bringCrops_7 (by decide) ?_
      refine gl_822 E hW rR (by decide) dX12_bringCrops_8 (fun y4399 m4400 b4401 => ?_)
      have b4402 := rr_2 (show RowInv _ from b4401) m4400 (by decide)
      refine q_icmp_ge (tgt := 124) hx hb dX12_bringCrops_9 (by decide) rfl rfl (fun c4621 => ?_) (fun c4621 => ?_)
      · exact e_V E hW rfl ⟨rfl, hF, z4394⟩ dX12_bringCrops_124
      · refine lv_aload_n hx hb dX12_bringCrops_12 rfl (lv_at hl 1 rfl) ?_
        refine fg_RX12_8 E hW rh0 dX12_bringCrops_13 (fun a4622 m4623 r4624 => ?_)
        obtain rfl : pR = a4622 := (m4397).symm.trans m4623
        refine lv_iload_n hx hb dX12_bringCrops_16 rfl (lv_at hl 0 rfl) ?_
        refine t_callS (As := [.int y4392]) (rest := [.ref pR]) E hW (c_X12_fieldAt l G cI cJ cZ cD cR cT kp L f4390 hW.2.2.2 _ y4392 (by omega)) wk_X12_fieldAt tw_1624 rfl ⟨Nat.le_of_ble_eq_true rfl, Nat.le_of_ble_eq_true rfl⟩ ⟨rfl, rfl⟩ hl.1 rfl (Nat.le_of_ble_eq_true rfl) dX12_bringCrops_17 ⟨Nat.le_of_ble_eq_true rfl, Nat.le_of_ble_eq_true rfl⟩ (fun v4625 f4626 H locs q4627 hW => ?_)
        obtain ⟨⟨x4629, rfl, p4630⟩, g4628⟩ := q4627
        have z4631 : RF rw_X12_bringCrops f0 f4626 h0 := rf_fm hTH z4394 g4628 rh0 rfl
        have hF := FM.tr hF g4628 rfl
        refine lv_iconst (v := 3) hx hb dX12_bringCrops_20 (by decide) ?_
        refine q_iadd (Y := 3) hx hb dX12_bringCrops_21 rfl rfl (by omega) (fun x4632 h4633 => ?_)
        refine gl_822 E hW rR ⟨by omega, by omega⟩ dX12_bringCrops_22 (fun y4634 m4635 b4636 => ?_)
        have b4637 := rr_fhol (show RowInv _ from b4636) m4635 (by omega)
        refine lv_istore_n (lv' := [(2, .int y4634), (1, .int y4392), (0, .ref h0)]) hx hb dX12_bringCrops_23 rfl hl (by decide) rfl (fun ls hl => ?_)
        refine lv_aload_n hx hb dX12_bringCrops_24 rfl (lv_at hl 2 rfl) ?_
        refine fg_RX12_8 E hW rh0 dX12_bringCrops_25 (fun a4638 m4639 r4640 => ?_)
        obtain rfl : pR = a4638 := (((fm_R g4628 rh0 rfl).trans m4623)).symm.trans m4639
        refine lv_sipush (v := 1582) hx hb dX12_bringCrops_28 (by decide) ?_
        refine lv_bipush (v := 41) hx hb dX12_bringCrops_31 (by decide) ?_
        refine lv_aload_n hx hb dX12_bringCrops_33 rfl (lv_at hl 2 rfl) ?_
        refine fg_RX12_8 E hW rh0 dX12_bringCrops_34 (fun a4641 m4642 r4643 => ?_)
        obtain rfl : pR = a4641 := (m4639).symm.trans m4642
        refine lv_bipush (v := 8) hx hb dX12_bringCrops_37 (by decide) ?_
        refine gl_822 E hW rR (by decide) dX12_bringCrops_39 (fun y4644 m4645 b4646 => ?_)
        have b4647 := rr_8 (show RowInv _ from b4646) m4645 (by decide)
        refine q_imul (X := 41) hx hb dX12_bringCrops_40 rfl rfl (by omega) (fun x4648 h4649 => ?_)
        refine q_iadd (X := 1582) hx hb dX12_bringCrops_41 rfl rfl (by omega) (fun x4650 h4651 => ?_)
        refine lv_iconst (v := 1) hx hb dX12_bringCrops_42 (by decide) ?_
        refine q_iadd (Y := 1) hx hb dX12_bringCrops_43 rfl rfl (by omega) (fun x4652 h4653 => ?_)
        refine lv_iload_n hx hb dX12_bringCrops_44 rfl (lv_at hl 1 rfl) ?_
        refine q_iadd hx hb dX12_bringCrops_45 rfl rfl (by omega) (fun x4654 h4655 => ?_)
        refine gl_822 E hW rR ⟨by omega, by omega⟩ dX12_bringCrops_46 (fun y4656 m4657 b4658 => ?_)
        refine lv_iconst (v := 1) hx hb dX12_bringCrops_47 (by decide) ?_
        refine u_isub hx hb dX12_bringCrops_48 (fun x4659 => ?_)
        refine lv_istore_n (lv' := [(3, .int x4659), (2, .int y4634), (1, .int y4392), (0, .ref h0)]) hx hb dX12_bringCrops_49 rfl hl (by decide) rfl (fun ls hl => ?_)
        refine lv_aload_n hx hb dX12_bringCrops_50 rfl (lv_at hl 3 rfl) ?_
        refine fg_RX12_161 E hW rh0 dX12_bringCrops_51 (fun y4660 m4661 b4662 => ?_)
        have J4727 : ∀ (f4720 : Nat → va_E) (y4725 : Int32) (m4721 : oR (f4720 h0) 2 = pR) (m4722 : oI (f4720 h0) 6 = y4660) (m4723 : aI (f4720 pR) (2 : Int32).toNatClampNeg = y4399) (m4724 : aI (f4720 pR) (8 : Int32).toNatClampNeg = y4644) (z4726 : RF rw_X12_bringCrops f0 f4720 h0) (H : Heap) (locs : List Loc) (ls : Array Slot), WS G cI cJ cZ cD cR cT A kp L f4720 s H locs → FM kp L ms_X12_bringCrops f0 f4720 → lv_has ls 4 [(3, .int y4725), (2, .int y4634), (1, .int y4392), (0, .ref h0)] → W p l e ({ frames := 2, cells := 0, slots := 0, locals := 60 }) s m ([.ref h0] : List Value).toArray below meth c H locs 0 0 (MQ below (QT (po_X12_bringCrops kp L f0 h0) G cI cJ cZ cD cR cT A kp L) ([.ref h0] : List Value).toArray s 0 0 A) (F0 m 94 ls []) := by
          intro f4720 y4725 m4721 m4722 m4723 m4724 z4726 H locs ls hW hF hl
          refine lv_iload_n hx hb dX12_bringCrops_94 rfl (lv_at hl 1 rfl) ?_
          refine lv_iconst (v := (-1)) hx hb dX12_bringCrops_95 (by decide) ?_
          have J4756 : ∀ (f4750 : Nat → va_E) (m4751 : oR (f4750 h0) 2 = pR) (m4752 : oI (f4750 h0) 6 = y4660) (m4753 : aI (f4750 pR) (2 : Int32).toNatClampNeg = y4399) (m4754 : aI (f4750 pR) (8 : Int32).toNatClampNeg = y4644) (z4755 : RF rw_X12_bringCrops f0 f4750 h0) (H : Heap) (locs : List Loc) (ls : Array Slot), WS G cI cJ cZ cD cR cT A kp L f4750 s H locs → FM kp L ms_X12_bringCrops f0 f4750 → lv_has ls 4 [(3, .int y4725), (2, .int y4634), (1, .int y4392), (0, .ref h0)] → W p l e ({ frames := 2, cells := 0, slots := 0, locals := 60 }) s m ([.ref h0] : List Value).toArray below meth c H locs 0 0 (MQ below (QT (po_X12_bringCrops kp L f0 h0) G cI cJ cZ cD cR cT A kp L) ([.ref h0] : List Value).toArray s 0 0 A) (F0 m 118 ls []) := by
            intro f4750 m4751 m4752 m4753 m4754 z4755 H locs ls hW hF hl
            refine q_iinc hx hb dX12_bringCrops_118 hl (k := 2) rfl rfl rfl (by omega) (by decide) (fun i4757 ls h4758 hl => ?_)
            have hl : lv_has ls 4 [(1, .int i4757), (3, .int y4725), (2, .int y4634), (0, .ref h0)] := hl
            refine lv_goto (tgt := 2) hx hb dX12_bringCrops_121 (by decide) ?_
            exact ih2 f4750 i4757 m4751 (by omega) z4755 (by omega) _ _ _ hW hF (lv_sub hl [0, 3] rfl)
          refine q_icmp_eq (Y := -1) (tgt := 118) hx hb dX12_bringCrops_96 (by decide) rfl rfl (fun c4759 => ?_) (fun c4759 => ?_)
          · exact J4756 f4720 m4721 m4722 m4723 m4724 z4726 _ _ _ hW hF (lv_sub hl [0, 1, 2, 3] rfl)
          · refine lv_iload_n hx hb dX12_bringCrops_99 rfl (lv_at hl 0 rfl) ?_
            refine q_if_le (tgt := 118) hx hb dX12_bringCrops_100 (by decide) rfl (fun c4760 => ?_) (fun c4760 => ?_)
            · exact J4756 f4720 m4721 m4722 m4723 m4724 z4726 _ _ _ hW hF (lv_sub hl [0, 1, 2, 3] rfl)
            · refine lv_aload_n hx hb dX12_bringCrops_103 rfl (lv_at hl 3 rfl) ?_
              refine fg_RX12_8 E hW rh0 dX12_bringCrops_104 (fun a4761 m4762 r4763 => ?_)
              obtain rfl : pR = a4761 := (m4721).symm.trans m4762
              refine lv_iload_n hx hb dX12_bringCrops_107 rfl (lv_at hl 1 rfl) ?_
              refine t_callS (As := [.int y4634]) (rest := [.ref pR]) E hW (c_X12_personAt l G cI cJ cZ cD cR cT kp L f4720 hW.2.2.2 _ y4634 (by omega)) wk_X12_personAt tw_1572 rfl ⟨Nat.le_of_ble_eq_true rfl, Nat.le_of_ble_eq_true rfl⟩ ⟨rfl, rfl⟩ hl.1 rfl (Nat.le_of_ble_eq_true rfl) dX12_bringCrops_108 ⟨Nat.le_of_ble_eq_true rfl, Nat.le_of_ble_eq_true rfl⟩ (fun v4764 f4765 H locs q4766 hW => ?_)
              obtain ⟨⟨x4768, rfl, p4769⟩, g4767⟩ := q4766
              have z4770 : RF rw_X12_bringCrops f0 f4765 h0 := rf_fm hTH z4726 g4767 rh0 rfl
              have hF := FM.tr hF g4767 rfl
              refine lv_iconst (v := 4) hx hb dX12_bringCrops_111 (by decide) ?_
              refine q_iadd (Y := 4) hx hb dX12_bringCrops_112 rfl rfl (by omega) (fun x4771 h4772 => ?_)
              refine lv_dup2_11 hx hb dX12_bringCrops_113 rfl rfl ?_
              refine gl_822 E hW rR ⟨by omega, by omega⟩ dX12_bringCrops_114 (fun y4773 m4774 b4775 => ?_)
              refine lv_iload_n hx hb dX12_bringCrops_115 rfl (lv_at hl 0 rfl) ?_
              refine u_iadd hx hb dX12_bringCrops_116 (fun x4776 => ?_)
              refine gs_822 E hW rR ⟨by omega, by omega⟩ (fun hc => rr_up hc (by omega) (by omega) (by unfold rbI; omega)) dX12_bringCrops_117 (fun f4777 H locs e4778 n4779 g4780 hW => ?_)
              have z4781 : RF rw_X12_bringCrops f0 f4777 h0 := rf_st (lo := 24) (hi := 336) z4770 mR e4778 (by omega) rfl
              have hF := FM.tr hF g4780 rfl
              exact J4756 f4777 ((fm_R g4780 rh0 rfl).trans ((fm_R g4767 rh0 rfl).trans m4762)) ((fm_I g4780 rh0 rfl).trans ((fm_I g4767 rh0 rfl).trans m4722)) (show aI (f4777 pR) (2 : Int32).toNatClampNeg = y4399 from by rw [e4778, up_n (tn_ne (by omega) (by decide) (by have hk0 : (2 : Int32).toInt = 2 := rfl; omega))]; exact ((congrArg (fun z => aI z (2 : Int32).toNatClampNeg) (fm_A g4767 rR (by decide) rfl)).trans m4723)) (show aI (f4777 pR) (8 : Int32).toNatClampNeg = y4644 from by rw [e4778, up_n (tn_ne (by omega) (by decide) (by have hk0 : (8 : Int32).toInt = 8 := rfl; omega))]; exact ((congrArg (fun z => aI z (8 : Int32).toNatClampNeg) (fm_A g4767 rR (by decide) rfl)).trans m4724)) z4781 _ _ _ hW hF (lv_sub hl [0, 1, 2, 3] rfl)
        refine q_if_eq (tgt := 94) hx hb dX12_bringCrops_54 (by decide) rfl (fun c4782 => ?_) (fun c4782 => ?_)
        · exact J4727 f4626 x4659 m4642 m4661 ((congrArg (fun z => aI z (2 : Int32).toNatClampNeg) (fm_A g4628 rR (by decide) rfl)).trans m4400) m4645 z4631 _ _ _ hW hF (lv_sub hl [0, 1, 2, 3] rfl)
        · refine lv_aload_n hx hb dX12_bringCrops_57 rfl (lv_at hl 3 rfl) ?_
          refine fg_RX12_8 E hW rh0 dX12_bringCrops_58 (fun a4783 m4784 r4785 => ?_)
          obtain rfl : pR = a4783 := (m4642).symm.trans m4784
          refine lv_bipush (v := 8) hx hb dX12_bringCrops_61 (by decide) ?_
          refine gl_822 E hW rR (by decide) dX12_bringCrops_63 (fun y4786 m4787 b4788 => ?_)
          obtain rfl : y4644 = y4786 := (m4645).symm.trans m4787
          refine lv_bipush (v := 13) hx hb dX12_bringCrops_64 (by decide) ?_
          refine q_irem (Y := 13) hx hb dX12_bringCrops_66 rfl rfl (by omega) (by omega) (fun x4789 h4790 => ?_)
          have J4818 : ∀ (f4811 : Nat → va_E) (y4816 : Int32) (m4812 : oR (f4811 h0) 2 = pR) (m4813 : oI (f4811 h0) 6 = y4660) (m4814 : aI (f4811 pR) (2 : Int32).toNatClampNeg = y4399) (m4815 : aI (f4811 pR) (8 : Int32).toNatClampNeg = y4644) (z4817 : RF rw_X12_bringCrops f0 f4811 h0) (H : Heap) (locs : List Loc) (ls : Array Slot), WS G cI cJ cZ cD cR cT A kp L f4811 s H locs → FM kp L ms_X12_bringCrops f0 f4811 → lv_has ls 4 [(3, .int x4659), (2, .int y4634), (1, .int y4392), (0, .ref h0)] → W p l e ({ frames := 2, cells := 0, slots := 0, locals := 60 }) s m ([.ref h0] : List Value).toArray below meth c H locs 0 0 (MQ below (QT (po_X12_bringCrops kp L f0 h0) G cI cJ cZ cD cR cT A kp L) ([.ref h0] : List Value).toArray s 0 0 A) (F0 m 93 ls [.int y4816]) := by
            intro f4811 y4816 m4812 m4813 m4814 m4815 z4817 H locs ls hW hF hl
            refine lv_istore_n (lv' := [(3, .int y4816), (2, .int y4634), (1, .int y4392), (0, .ref h0)]) hx hb dX12_bringCrops_93 rfl hl (by decide) rfl (fun ls hl => ?_)
            exact J4727 f4811 y4816 m4812 m4813 m4814 m4815 z4817 _ _ _ hW hF (lv_sub hl [0, 1, 2, 3] rfl)
          refine q_if_ne (tgt := 92) hx hb dX12_bringCrops_67 (by decide) rfl (fun c4819 => ?_) (fun c4819 => ?_)
          · refine lv_iconst (v := 0) hx hb dX12_bringCrops_92 (by decide) ?_
            exact J4818 f4626 0 m4784 m4661 ((congrArg (fun z => aI z (2 : Int32).toNatClampNeg) (fm_A g4628 rR (by decide) rfl)).trans m4400) m4787 z4631 _ _ _ hW hF (lv_sub hl [0, 1, 2, 3] rfl)
          · refine lv_aload_n hx hb dX12_bringCrops_70 rfl (lv_at hl 3 rfl) ?_
            refine fg_RX12_452 E hW rh0 dX12_bringCrops_71 (fun y4820 m4821 => ?_)
            refine lv_aload_n hx hb dX12_bringCrops_74 rfl (lv_at hl 3 rfl) ?_
            refine fg_RX12_8 E hW rh0 dX12_bringCrops_75 (fun a4823 m4824 r4825 => ?_)
            obtain rfl : pR = a4823 := (m4784).symm.trans m4824
            refine lv_iload_n hx hb dX12_bringCrops_78 rfl (lv_at hl 2 rfl) ?_
            refine t_callS (As := [.int y4392]) (rest := [.ref pR, .int y4820]) E hW (c_X12_fieldAt l G cI cJ cZ cD cR cT kp L f4626 hW.2.2.2 _ y4392 (by omega)) wk_X12_fieldAt tw_1624 rfl ⟨Nat.le_of_ble_eq_true rfl, Nat.le_of_ble_eq_true rfl⟩ ⟨rfl, rfl⟩ hl.1 rfl (Nat.le_of_ble_eq_true rfl) dX12_bringCrops_79 ⟨Nat.le_of_ble_eq_true rfl, Nat.le_of_ble_eq_true rfl⟩ (fun v4826 f4827 H locs q4828 hW => ?_)
            obtain ⟨⟨x4830, rfl, p4831⟩, g4829⟩ := q4828
            have m4832 : aI (f4827 pR) (2 : Int32).toNatClampNeg = y4399 := ((congrArg (fun z => aI z (2 : Int32).toNatClampNeg) (fm_A g4829 rR (by decide) rfl)).trans ((congrArg (fun z => aI z (2 : Int32).toNatClampNeg) (fm_A g4628 rR (by decide) rfl)).trans m4400))
            have z4833 : RF rw_X12_bringCrops f0 f4827 h0 := rf_fm hTH z4631 g4829 rh0 rfl
            have hF := FM.tr hF g4829 rfl
            refine lv_iconst (v := 1) hx hb dX12_bringCrops_82 (by decide) ?_
            refine q_iadd (Y := 1) hx hb dX12_bringCrops_83 rfl rfl (by omega) (fun x4834 h4835 => ?_)
            refine gl_822 E hW rR ⟨by omega, by omega⟩ dX12_bringCrops_84 (fun y4836 m4837 b4838 => ?_)
            refine u_imul hx hb dX12_bringCrops_85 (fun x4839 => ?_)
            refine lv_bipush (v := 100) hx hb dX12_bringCrops_86 (by decide) ?_
            refine u_idiv hx hb dX12_bringCrops_88 (by decide) (fun x4840 => ?_)
            refine lv_goto (tgt := 93) hx hb dX12_bringCrops_89 (by decide) ?_
            exact J4818 f4827 x4840 ((fm_R g4829 rh0 rfl).trans m4824) ((fm_I g4829 rh0 rfl).trans m4661) m4832 ((congrArg (fun z => aI z (8 : Int32).toNatClampNeg) (fm_A g4829 rR (by decide) rfl)).trans m4787) z4833 _ _ _ hW hF (lv_sub hl [0, 1, 2, 3] rfl)
  have hk4841 : (0 : Int32).toInt = 0 := rfl
  exact L4395 41 f0 0 mR (by decide) rf_rf (by omega) _ _ _ hW hF (lv_sub hl [0, 1] rfl)
def rw_X12_payRents : List (Nat × Nat) := [(13, 336), (340, 363), (368, 680)]
def ms_X12_payRents : List (Nat × Nat) := [(12, 33), (12, 34), (12, 35), (12, 36), (12, 37), (822, 0), (851, 0), (852, 0)]
def po_X12_payRents (kp : Nat → Nat) (L : List Nat) (f0 : Nat → va_E) (h0 : Nat) : Option Value → (Nat → va_E) → Prop := fun v f => v = none ∧ FM kp L ms_X12_payRents f0 f ∧ (RF rw_X12_payRents f0 f h0)
set_option maxHeartbeats 4000000 in
set_option maxRecDepth 100000 in
theorem c_X12_payRents (l : Launch) (G : va_G) (cI cJ cZ cD cR cT : ClassId) (kp : Nat → Nat) (L : List Nat) (f0 : Nat → va_E) (hTH : TH cI cJ cZ cD cR cT kp L f0) (sz : Nat) (h0 : Nat) (rh0 : RK kp L h0 12) (hTX : TX (aI (f0 (oR (f0 h0) 2)))) : Met l yX12_payRents (Cond.code yX12_payRents cX12_payRents 9 none :: wTab) ({ frames := 6, cells := 0, slots := 0, locals := 163 }) (va_Pc [.ref h0] (PreW G (tys6 cI cJ cZ cD cR cT) (va_pl L f0) sz)) (QT (po_X12_payRents kp L f0 h0) G cI cJ cZ cD cR cT (va_A (va_pl L f0) sz) kp L) 0 0 (va_A (va_pl L f0) sz) := by
  refine metT (by decide) (Nat.le_of_ble_eq_true rfl) hTH ?_
  intro p e s m below meth c A ls E hW hl
  obtain ⟨hx, hb, -, hml, hown, hts, -, -, -⟩ := id E
  have hF : FM kp L ms_X12_payRents f0 f0 := FM.rf
  have hl : lv_has ls 9 [(0, .ref h0)] := hl
  obtain ⟨pR, mR⟩ : ∃ x : Nat, oR (f0 h0) 2 = x := ⟨_, rfl⟩
  have rR : RK kp L pR 822 := by rw [← mR]; exact th_ref hTH rh0 (by decide) (by decide) rfl
  rw [mR] at hTX
  refine lv_aload_n hx hb dX12_payRents_0 rfl (lv_at hl 0 rfl) ?_
  refine t_callV (As := []) (rest := []) E hW (c_X12_priceNow l G cI cJ cZ cD cR cT kp L f0 hW.2.2.2 _ h0 rh0) rh0 (by decide) rfl wk_X12_priceNow tw_1677 rfl ⟨Nat.le_of_ble_eq_true rfl, Nat.le_of_ble_eq_true rfl⟩ ⟨rfl, rfl⟩ hl.1 rfl (Nat.le_of_ble_eq_true rfl) dX12_payRents_1 ⟨Nat.le_of_ble_eq_true rfl, Nat.le_of_ble_eq_true rfl⟩ (fun v1 f2 H locs q3 hW => ?_)
  obtain ⟨⟨x5, rfl, p6⟩, g4⟩ := q3
  clear p6
  have z7 : RF rw_X12_payRents f0 f2 h0 := rf_fm hTH rf_rf g4 rh0 rfl
  have hF := FM.tr hF g4 rfl
  refine lv_istore_n (lv' := [(1, .int x5), (0, .ref h0)]) hx hb dX12_payRents_4 rfl hl (by decide) rfl (fun ls hl => ?_)
  refine lv_iconst (v := 0) hx hb dX12_payRents_5 (by decide) ?_
  refine lv_istore_n (lv' := [(2, .int 0), (1, .int x5), (0, .ref h0)]) hx hb dX12_payRents_6 rfl hl (by decide) rfl (fun ls hl => ?_)
  have L12876 : ∀ (n : Nat), ∀ (f12871 : Nat → va_E) (y12873 : Int32) (m12872 : oR (f12871 h0) 2 = pR) (b12874 : (0 : Int) ≤ y12873.toInt ∧ y12873.toInt ≤ 40) (z12875 : RF rw_X12_payRents f0 f12871 h0) (hm : (41 : Int) - y12873.toInt ≤ n) (H : Heap) (locs : List Loc) (ls : Array Slot), WS G cI cJ cZ cD cR cT A kp L f12871 s H locs → FM kp L ms_X12_payRents f0 f12871 → lv_has ls 9 [(2, .int y12873), (1, .int x5), (0, .ref h0)] → W p l e ({ frames := 6, cells := 0, slots := 0, locals := 163 }) s m ([.ref h0] : List Value).toArray below meth c H locs 0 0 (MQ below (QT (po_X12_payRents kp L f0 h0) G cI cJ cZ cD cR cT A kp L) ([.ref h0] : List Value).toArray s 0 0 A) (F0 m 7 ls []) := by
    intro n
    induction n with
    | zero =>
      intro f12871 y12873 m12872 b12874 z12875 hm H locs ls hW hF hl
      have hz := i32_b y12873
      exfalso; omega
    | succ n ih =>
      intro f12871 y12873 m12872 b12874 z12875 hm H locs ls hW hF hl
      have ih7 := ih
      refine lv_iload_n hx hb dX12_payRents_7 rfl (lv_at hl 0 rfl) ?_
      refine lv_aload_n hx hb dX12_payRents_8 rfl (lv_at hl 2 rfl) ?_
      refine fg_RX12_8 E hW rh0 dX12_payRents_9 (fun a12877 m12878 r12879 => ?_)
      obtain rfl : pR = a12877 := (m12872).symm.trans m12878
      refine lv_iconst (v := 2) hx hb dX12_payRents_12 (by decide) ?_
      refine gl_822 E hW rR (by decide) dX12_payRents_13 (fun y12880 m12881 b12882 => ?_)
      have b12883 := rr_2 (show RowInv _ from b12882) m12881 (by decide)
      refine q_icmp_ge (tgt := 294) hx hb dX12_payRents_14 (by decide) rfl rfl (fun c13548 => ?_) (fun c13548 => ?_)
      · refine lv_iconst (v := 0) hx hb dX12_payRents_294 (by decide) ?_
        refine lv_istore_n (lv' := [(2, .int 0), (1, .int x5), (0, .ref h0)]) hx hb dX12_payRents_295 rfl hl (by decide) rfl (fun ls hl => ?_)
        have L14905 : ∀ (n : Nat), ∀ (f14899 : Nat → va_E) (y14902 : Int32) (m14900 : oR (f14899 h0) 2 = pR) (m14901 : aI (f14899 pR) (2 : Int32).toNatClampNeg = y12880) (b14903 : (0 : Int) ≤ y14902.toInt ∧ y14902.toInt ≤ 8) (z14904 : RF rw_X12_payRents f0 f14899 h0) (hm : (9 : Int) - y14902.toInt ≤ n) (H : Heap) (locs : List Loc) (ls : Array Slot), WS G cI cJ cZ cD cR cT A kp L f14899 s H locs → FM kp L ms_X12_payRents f0 f14899 → lv_has ls 9 [(2, .int y14902), (1, .int x5), (0, .ref h0)] → W p l e ({ frames := 6, cells := 0, slots := 0, locals := 163 }) s m ([.ref h0] : List Value).toArray below meth c H locs 0 0 (MQ below (QT (po_X12_payRents kp L f0 h0) G cI cJ cZ cD cR cT A kp L) ([.ref h0] : List Value).toArray s 0 0 A) (F0 m 296 ls []) := by
          intro n
          induction n with
          | zero =>
            intro f14899 y14902 m14900 m14901 b14903 z14904 hm H locs ls hW hF hl
            have hz := i32_b y14902
            exfalso; omega
          | succ n ih =>
            intro f14899 y14902 m14900 m14901 b14903 z14904 hm H locs ls hW hF hl
            have ih296 := ih
            refine lv_iload_n hx hb dX12_payRents_296 rfl (lv_at hl 0 rfl) ?_
            refine lv_aload_n hx hb dX12_payRents_297 rfl (lv_at hl 2 rfl) ?_
            refine fg_RX12_8 E hW rh0 dX12_payRents_298 (fun a14906 m14907 r14908 => ?_)
            obtain rfl : pR = a14906 := (m14900).symm.trans m14907
            refine lv_iconst (v := 1) hx hb dX12_payRents_301 (by decide) ?_
            refine gl_822 E hW rR (by decide) dX12_payRents_302 (fun y14909 m14910 b14911 => ?_)
            have b14912 := rr_1 (show RowInv _ from b14911) m14910 (by decide)
            refine q_icmp_ge (tgt := 389) hx hb dX12_payRents_303 (by decide) rfl rfl (fun c15049 => ?_) (fun c15049 => ?_)
            · exact e_V E hW rfl ⟨rfl, hF, z14904⟩ dX12_payRents_389
            · refine lv_iload_n hx hb dX12_payRents_306 rfl (lv_at hl 0 rfl) ?_
              refine t_callS (As := [.int y14902]) (rest := []) E hW (c_X12_estateAt l G cI cJ cZ cD cR cT kp L f14899 hW.2.2.2 _ y14902 (by omega)) wk_X12_estateAt tw_1611 rfl ⟨Nat.le_of_ble_eq_true rfl, Nat.le_of_ble_eq_true rfl⟩ ⟨rfl, rfl⟩ hl.1 rfl (Nat.le_of_ble_eq_true rfl) dX12_payRents_307 ⟨Nat.le_of_ble_eq_true rfl, Nat.le_of_ble_eq_true rfl⟩ (fun v15050 f15051 H locs q15052 hW => ?_)
              obtain ⟨⟨x15054, rfl, p15055⟩, g15053⟩ := q15052
              have z15056 : RF rw_X12_payRents f0 f15051 h0 := rf_fm hTH z14904 g15053 rh0 rfl
              have hF := FM.tr hF g15053 rfl
              refine lv_istore_n (lv' := [(3, .int x15054), (2, .int y14902), (1, .int x5), (0, .ref h0)]) hx hb dX12_payRents_310 rfl hl (by decide) rfl (fun ls hl => ?_)
              refine lv_aload_n hx hb dX12_payRents_311 rfl (lv_at hl 3 rfl) ?_
              refine fg_RX12_8 E hW rh0 dX12_payRents_312 (fun a15057 m15058 r15059 => ?_)
              obtain rfl : pR = a15057 := (((fm_R g15053 rh0 rfl).trans m14907)).symm.trans m15058
              refine lv_iload_n hx hb dX12_payRents_315 rfl (lv_at hl 0 rfl) ?_
              refine lv_iconst (v := 2) hx hb dX12_payRents_316 (by decide) ?_
              refine q_iadd (Y := 2) hx hb dX12_payRents_317 rfl rfl (by omega) (fun x15060 h15061 => ?_)
              refine gl_822 E hW rR ⟨by omega, by omega⟩ dX12_payRents_318 (fun y15062 m15063 b15064 => ?_)
              refine lv_iconst (v := (-1)) hx hb dX12_payRents_319 (by decide) ?_
              have J15126 : ∀ (f15121 : Nat → va_E) (m15122 : oR (f15121 h0) 2 = pR) (m15123 : aI (f15121 pR) (2 : Int32).toNatClampNeg = y12880) (m15124 : aI (f15121 pR) (1 : Int32).toNatClampNeg = y14909) (z15125 : RF rw_X12_payRents f0 f15121 h0) (H : Heap) (locs : List Loc) (ls : Array Slot), WS G cI cJ cZ cD cR cT A kp L f15121 s H locs → FM kp L ms_X12_payRents f0 f15121 → lv_has ls 9 [(3, .int x15054), (2, .int y14902), (1, .int x5), (0, .ref h0)] → W p l e ({ frames := 6, cells := 0, slots := 0, locals := 163 }) s m ([.ref h0] : List Value).toArray below meth c H locs 0 0 (MQ below (QT (po_X12_payRents kp L f0 h0) G cI cJ cZ cD cR cT A kp L) ([.ref h0] : List Value).toArray s 0 0 A) (F0 m 383 ls []) := by
                intro f15121 m15122 m15123 m15124 z15125 H locs ls hW hF hl
                refine q_iinc hx hb dX12_payRents_383 hl (k := 1) rfl rfl rfl (by omega) (by decide) (fun i15127 ls h15128 hl => ?_)
                have hl : lv_has ls 9 [(2, .int i15127), (3, .int x15054), (1, .int x5), (0, .ref h0)] := hl
                refine lv_goto (tgt := 296) hx hb dX12_payRents_386 (by decide) ?_
                exact ih296 f15121 i15127 m15122 m15123 (by omega) z15125 (by omega) _ _ _ hW hF (lv_sub hl [0, 2, 3] rfl)
              refine q_icmp_ne (Y := -1) (tgt := 383) hx hb dX12_payRents_320 (by decide) rfl rfl (fun c15129 => ?_) (fun c15129 => ?_)
              · exact J15126 f15051 m15058 ((congrArg (fun z => aI z (2 : Int32).toNatClampNeg) (fm_A g15053 rR (by decide) rfl)).trans m14901) ((congrArg (fun z => aI z (1 : Int32).toNatClampNeg) (fm_A g15053 rR (by decide) rfl)).trans m14910) z15056 _ _ _ hW hF (lv_sub hl [0, 1, 2, 3] rfl)
              · refine lv_aload_n hx hb dX12_payRents_323 rfl (lv_at hl 3 rfl) ?_
                refine fg_RX12_8 E hW rh0 dX12_payRents_324 (fun a15130 m15131 r15132 => ?_)
                obtain rfl : pR = a15130 := (m15058).symm.trans m15131
                refine lv_iload_n hx hb dX12_payRents_327 rfl (lv_at hl 0 rfl) ?_
                refine lv_iconst (v := 1) hx hb dX12_payRents_328 (by decide) ?_
                refine q_iadd (Y := 1) hx hb dX12_payRents_329 rfl rfl (by omega) (fun x15133 h15134 => ?_)
                refine gl_822 E hW rR ⟨by omega, by omega⟩ dX12_payRents_330 (fun y15135 m15136 b15137 => ?_)
                refine lv_istore (lv' := [(4, .int y15135), (3, .int x15054), (2, .int y14902), (1, .int x5), (0, .ref h0)]) hx hb dX12_payRents_331 hl (by decide) rfl (fun ls hl => ?_)
                refine lv_aload_n hx hb dX12_payRents_333 rfl (lv_at hl 4 rfl) ?_
                refine fg_RX12_8 E hW rh0 dX12_payRents_334 (fun a15138 m15139 r15140 => ?_)
                obtain rfl : pR = a15138 := (m15131).symm.trans m15139
                refine lv_iload_n hx hb dX12_payRents_337 rfl (lv_at hl 1 rfl) ?_
                refine gl_822 E hW rR ⟨by omega, by omega⟩ dX12_payRents_338 (fun y15141 m15142 b15143 => ?_)
                refine lv_iload hx hb dX12_payRents_339 (lv_at hl 0 rfl) ?_
                refine q_icmp_ge (tgt := 372) hx hb dX12_payRents_341 (by decide) rfl rfl (fun c15144 => ?_) (fun c15144 => ?_)
                · refine lv_aload_n hx hb dX12_payRents_372 rfl (lv_at hl 4 rfl) ?_
                  refine fg_RX12_8 E hW rh0 dX12_payRents_373 (fun a15145 m15146 r15147 => ?_)
                  obtain rfl : pR = a15145 := (m15139).symm.trans m15146
                  refine lv_iload_n hx hb dX12_payRents_376 rfl (lv_at hl 1 rfl) ?_
                  refine lv_dup2_11 hx hb dX12_payRents_377 rfl rfl ?_
                  refine gl_822 E hW rR ⟨by omega, by omega⟩ dX12_payRents_378 (fun y15148 m15149 b15150 => ?_)
                  obtain rfl : y15141 = y15148 := (m15142).symm.trans m15149
                  refine lv_iload hx hb dX12_payRents_379 (lv_at hl 0 rfl) ?_
                  refine u_isub hx hb dX12_payRents_381 (fun x15151 => ?_)
                  refine gs_822 E hW rR ⟨by omega, by omega⟩ (fun hc => rr_up hc (by omega) (by omega) (by unfold rbI; omega)) dX12_payRents_382 (fun f15152 H locs e15153 n15154 g15155 hW => ?_)
                  have z15156 : RF rw_X12_payRents f0 f15152 h0 := rf_st (lo := 340) (hi := 361) z15056 mR e15153 (by omega) rfl
                  have hF := FM.tr hF g15155 rfl
                  exact J15126 f15152 ((fm_R g15155 rh0 rfl).trans m15146) (show aI (f15152 pR) (2 : Int32).toNatClampNeg = y12880 from by rw [e15153, up_n (tn_ne (by omega) (by decide) (by have hk0 : (2 : Int32).toInt = 2 := rfl; omega))]; exact ((congrArg (fun z => aI z (2 : Int32).toNatClampNeg) (fm_A g15053 rR (by decide) rfl)).trans m14901)) (show aI (f15152 pR) (1 : Int32).toNatClampNeg = y14909 from by rw [e15153, up_n (tn_ne (by omega) (by decide) (by have hk0 : (1 : Int32).toInt = 1 := rfl; omega))]; exact ((congrArg (fun z => aI z (1 : Int32).toNatClampNeg) (fm_A g15053 rR (by decide) rfl)).trans m14910)) z15156 _ _ _ hW hF (lv_sub hl [1, 2, 3, 4] rfl)
                · have hb15157 : y15141.toInt ≤ 2147483646 := by have := i32_b y15135; omega
                  have hb15158 : -2147483647 ≤ y15135.toInt := by have := i32_b y15141; omega
                  refine lv_aload_n hx hb dX12_payRents_344 rfl (lv_at hl 4 rfl) ?_
                  refine fg_RX12_8 E hW rh0 dX12_payRents_345 (fun a15159 m15160 r15161 => ?_)
                  obtain rfl : pR = a15159 := (m15139).symm.trans m15160
                  refine lv_iload_n hx hb dX12_payRents_348 rfl (lv_at hl 1 rfl) ?_
                  refine lv_iconst (v := 2) hx hb dX12_payRents_349 (by decide) ?_
                  refine q_iadd (Y := 2) hx hb dX12_payRents_350 rfl rfl (by omega) (fun x15162 h15163 => ?_)
                  refine lv_aload_n hx hb dX12_payRents_351 rfl (lv_at hl 4 rfl) ?_
                  refine fg_RX12_8 E hW rh0 dX12_payRents_352 (fun a15164 m15165 r15166 => ?_)
                  obtain rfl : pR = a15164 := (m15160).symm.trans m15165
                  refine lv_bipush (v := 8) hx hb dX12_payRents_355 (by decide) ?_
                  refine gl_822 E hW rR (by decide) dX12_payRents_357 (fun y15167 m15168 b15169 => ?_)
                  have b15170 := rr_8 (show RowInv _ from b15169) m15168 (by decide)
                  refine lv_bipush (v := 13) hx hb dX12_payRents_358 (by decide) ?_
                  refine q_idiv (Y := 13) hx hb dX12_payRents_360 rfl rfl (by omega) (by omega) (fun x15171 h15172 => ?_)
                  refine gs_822 E hW rR ⟨by omega, by omega⟩ (fun hc => rr_up hc (by omega) (by omega) (by unfold rbI; omega)) dX12_payRents_361 (fun f15173 H locs e15174 n15175 g15176 hW => ?_)
                  have z15177 : RF rw_X12_payRents f0 f15173 h0 := rf_st (lo := 342) (hi := 363) z15056 mR e15174 (by omega) rfl
                  have hF := FM.tr hF g15176 rfl
                  refine lv_aload_n hx hb dX12_payRents_362 rfl (lv_at hl 4 rfl) ?_
                  refine fg_RX12_8 E hW rh0 dX12_payRents_363 (fun a15178 m15179 r15180 => ?_)
                  obtain rfl : pR = a15178 := (((fm_R g15176 rh0 rfl).trans m15165)).symm.trans m15179
                  refine lv_iload_n hx hb dX12_payRents_366 rfl (lv_at hl 1 rfl) ?_
                  refine lv_iconst (v := 0) hx hb dX12_payRents_367 (by decide) ?_
                  have hk15181 : (0 : Int32).toInt = 0 := rfl
                  refine gs_822 E hW rR ⟨by omega, by omega⟩ (fun hc => rr_up hc (by omega) (by omega) (by unfold rbI; omega)) dX12_payRents_368 (fun f15182 H locs e15183 n15184 g15185 hW => ?_)
                  have z15186 : RF rw_X12_payRents f0 f15182 h0 := rf_st (lo := 340) (hi := 361) z15177 mR e15183 (by omega) rfl
                  have hF := FM.tr hF g15185 rfl
                  refine lv_goto (tgt := 383) hx hb dX12_payRents_369 (by decide) ?_
                  exact J15126 f15182 ((fm_R g15185 rh0 rfl).trans m15179) (show aI (f15182 pR) (2 : Int32).toNatClampNeg = y12880 from by rw [e15183, up_n (tn_ne (by omega) (by decide) (by have hk0 : (2 : Int32).toInt = 2 := rfl; omega))]; exact (show aI (f15173 pR) (2 : Int32).toNatClampNeg = y12880 from by rw [e15174, up_n (tn_ne (by omega) (by decide) (by have hk0 : (2 : Int32).toInt = 2 := rfl; omega))]; exact ((congrArg (fun z => aI z (2 : Int32).toNatClampNeg) (fm_A g15053 rR (by decide) rfl)).trans m14901))) (show aI (f15182 pR) (1 : Int32).toNatClampNeg = y14909 from by rw [e15183, up_n (tn_ne (by omega) (by decide) (by have hk0 : (1 : Int32).toInt = 1 := rfl; omega))]; exact (show aI (f15173 pR) (1 : Int32).toNatClampNeg = y14909 from by rw [e15174, up_n (tn_ne (by omega) (by decide) (by have hk0 : (1 : Int32).toInt = 1 := rfl; omega))]; exact ((congrArg (fun z => aI z (1 : Int32).toNatClampNeg) (fm_A g15053 rR (by decide) rfl)).trans m14910))) z15186 _ _ _ hW hF (lv_sub hl [1, 2, 3, 4] rfl)
        have hk15187 : (0 : Int32).toInt = 0 := rfl
        exact L14905 9 f12871 0 m12878 m12881 (by decide) z12875 (by omega) _ _ _ hW hF (lv_sub hl [0, 1, 2] rfl)
      · refine lv_iload_n hx hb dX12_payRents_17 rfl (lv_at hl 0 rfl) ?_
        refine t_callS (As := [.int y12873]) (rest := []) E hW (c_X12_fieldAt l G cI cJ cZ cD cR cT kp L f12871 hW.2.2.2 _ y12873 (by omega)) wk_X12_fieldAt tw_1624 rfl ⟨Nat.le_of_ble_eq_true rfl, Nat.le_of_ble_eq_true rfl⟩ ⟨rfl, rfl⟩ hl.1 rfl (Nat.le_of_ble_eq_true rfl) dX12_payRents_18 ⟨Nat.le_of_ble_eq_true rfl, Nat.le_of_ble_eq_true rfl⟩ (fun v15188 f15189 H locs q15190 hW => ?_)
        obtain ⟨⟨x15192, rfl, p15193⟩, g15191⟩ := q15190
        have z15194 : RF rw_X12_payRents f0 f15189 h0 := rf_fm hTH z12875 g15191 rh0 rfl
        have hF := FM.tr hF g15191 rfl
        refine lv_istore_n (lv' := [(3, .int x15192), (2, .int y12873), (1, .int x5), (0, .ref h0)]) hx hb dX12_payRents_21 rfl hl (by decide) rfl (fun ls hl => ?_)
        refine lv_aload_n hx hb dX12_payRents_22 rfl (lv_at hl 3 rfl) ?_
        refine fg_RX12_8 E hW rh0 dX12_payRents_23 (fun a15195 m15196 r15197 => ?_)
        obtain rfl : pR = a15195 := (((fm_R g15191 rh0 rfl).trans m12878)).symm.trans m15196
        refine lv_iload_n hx hb dX12_payRents_26 rfl (lv_at hl 0 rfl) ?_
        refine lv_iconst (v := 3) hx hb dX12_payRents_27 (by decide) ?_
        refine q_iadd (Y := 3) hx hb dX12_payRents_28 rfl rfl (by omega) (fun x15198 h15199 => ?_)
        refine gl_822 E hW rR ⟨by omega, by omega⟩ dX12_payRents_29 (fun y15200 m15201 b15202 => ?_)
        have b15203 := rr_fhol (show RowInv _ from b15202) m15201 (by omega)
        refine lv_iconst (v := (-1)) hx hb dX12_payRents_30 (by decide) ?_
        have J15528 : ∀ (f15524 : Nat → va_E) (m15525 : oR (f15524 h0) 2 = pR) (m15526 : aI (f15524 pR) (2 : Int32).toNatClampNeg = y12880) (z15527 : RF rw_X12_payRents f0 f15524 h0) (H : Heap) (locs : List Loc) (ls : Array Slot), WS G cI cJ cZ cD cR cT A kp L f15524 s H locs → FM kp L ms_X12_payRents f0 f15524 → lv_has ls 9 [(3, .int x15192), (2, .int y12873), (1, .int x5), (0, .ref h0)] → W p l e ({ frames := 6, cells := 0, slots := 0, locals := 163 }) s m ([.ref h0] : List Value).toArray below meth c H locs 0 0 (MQ below (QT (po_X12_payRents kp L f0 h0) G cI cJ cZ cD cR cT A kp L) ([.ref h0] : List Value).toArray s 0 0 A) (F0 m 288 ls []) := by
          intro f15524 m15525 m15526 z15527 H locs ls hW hF hl
          clear b15203
          refine q_iinc hx hb dX12_payRents_288 hl (k := 1) rfl rfl rfl (by omega) (by decide) (fun i15529 ls h15530 hl => ?_)
          have hl : lv_has ls 9 [(2, .int i15529), (3, .int x15192), (1, .int x5), (0, .ref h0)] := hl
          refine lv_goto (tgt := 7) hx hb dX12_payRents_291 (by decide) ?_
          exact ih7 f15524 i15529 m15525 (by omega) z15527 (by omega) _ _ _ hW hF (lv_sub hl [0, 2, 3] rfl)
        refine q_icmp_eq (Y := -1) (tgt := 288) hx hb dX12_payRents_31 (by decide) rfl rfl (fun c15531 => ?_) (fun c15531 => ?_)
        · exact J15528 f15189 m15196 ((congrArg (fun z => aI z (2 : Int32).toNatClampNeg) (fm_A g15191 rR (by decide) rfl)).trans m12881) z15194 _ _ _ hW hF (lv_sub hl [0, 1, 2, 3] rfl)
        · refine lv_aload_n hx hb dX12_payRents_34 rfl (lv_at hl 3 rfl) ?_
          refine fg_RX12_8 E hW rh0 dX12_payRents_35 (fun a15532 m15533 r15534 => ?_)
          obtain rfl : pR = a15532 := (m15196).symm.trans m15533
          refine lv_aload_n hx hb dX12_payRents_38 rfl (lv_at hl 3 rfl) ?_
          refine fg_RX12_8 E hW rh0 dX12_payRents_39 (fun a15535 m15536 r15537 => ?_)
          obtain rfl : pR = a15535 := (m15533).symm.trans m15536
          refine lv_iload_n hx hb dX12_payRents_42 rfl (lv_at hl 0 rfl) ?_
          refine lv_iconst (v := 3) hx hb dX12_payRents_43 (by decide) ?_
          refine q_iadd (Y := 3) hx hb dX12_payRents_44 rfl rfl (by omega) (fun x15538 h15539 => ?_)
          refine gl_822 E hW rR ⟨by omega, by omega⟩ dX12_payRents_45 (fun y15540 m15541 b15542 => ?_)
          have m15543 : aI (f15189 pR) (x15538 : Int32).toNatClampNeg = y15200 := by rw [show (x15538 : Int32) = x15198 from Int32.toInt_inj.mp (by omega)]; exact m15201
          obtain rfl : y15200 = y15540 := (m15543).symm.trans m15541
          refine t_callS (As := [.int y15200]) (rest := [.ref pR]) E hW (c_X12_personAt l G cI cJ cZ cD cR cT kp L f15189 hW.2.2.2 _ y15200 (by omega)) wk_X12_personAt tw_1572 rfl ⟨Nat.le_of_ble_eq_true rfl, Nat.le_of_ble_eq_true rfl⟩ ⟨rfl, rfl⟩ hl.1 rfl (Nat.le_of_ble_eq_true rfl) dX12_payRents_46 ⟨Nat.le_of_ble_eq_true rfl, Nat.le_of_ble_eq_true rfl⟩ (fun v15544 f15545 H locs q15546 hW => ?_)
          obtain ⟨⟨x15548, rfl, p15549⟩, g15547⟩ := q15546
          have m15550 : aI (f15545 pR) (2 : Int32).toNatClampNeg = y12880 := ((congrArg (fun z => aI z (2 : Int32).toNatClampNeg) (fm_A g15547 rR (by decide) rfl)).trans ((congrArg (fun z => aI z (2 : Int32).toNatClampNeg) (fm_A g15191 rR (by decide) rfl)).trans m12881))
          have z15551 : RF rw_X12_payRents f0 f15545 h0 := rf_fm hTH z15194 g15547 rh0 rfl
          have hF := FM.tr hF g15547 rfl
          refine lv_iconst (v := 5) hx hb dX12_payRents_49 (by decide) ?_
          refine q_iadd (Y := 5) hx hb dX12_payRents_50 rfl rfl (by omega) (fun x15552 h15553 => ?_)
          refine gl_822 E hW rR ⟨by omega, by omega⟩ dX12_payRents_51 (fun y15554 m15555 b15556 => ?_)
          refine q_if_ne (tgt := 288) hx hb dX12_payRents_52 (by decide) rfl (fun c15557 => ?_) (fun c15557 => ?_)
          · exact J15528 f15545 ((fm_R g15547 rh0 rfl).trans m15536) m15550 z15551 _ _ _ hW hF (lv_sub hl [0, 1, 2, 3] rfl)
          · refine lv_aload_n hx hb dX12_payRents_55 rfl (lv_at hl 3 rfl) ?_
            refine lv_iload_n hx hb dX12_payRents_56 rfl (lv_at hl 1 rfl) ?_
            refine t_callV (As := [.int y12873]) (rest := []) E hW (c_X12_rentOf l G cI cJ cZ cD cR cT kp L f15545 hW.2.2.2 _ h0 y12873 rh0 (by omega)) rh0 (by decide) rfl wk_X12_rentOf tw_1665 rfl ⟨Nat.le_of_ble_eq_true rfl, Nat.le_of_ble_eq_true rfl⟩ ⟨rfl, rfl⟩ hl.1 rfl (Nat.le_of_ble_eq_true rfl) dX12_payRents_57 ⟨Nat.le_of_ble_eq_true rfl, Nat.le_of_ble_eq_true rfl⟩ (fun v15558 f15559 H locs q15560 hW => ?_)
            obtain ⟨⟨x15562, rfl, p15563⟩, g15561⟩ := q15560
            have m15564 : aI (f15559 pR) (x15198 : Int32).toNatClampNeg = y15200 := ((congrArg (fun z => aI z (x15198 : Int32).toNatClampNeg) (fm_A g15561 rR (by decide) rfl)).trans ((congrArg (fun z => aI z (x15198 : Int32).toNatClampNeg) (fm_A g15547 rR (by decide) rfl)).trans m15201))
            have m15565 : aI (f15559 pR) (x15538 : Int32).toNatClampNeg = y15200 := ((congrArg (fun z => aI z (x15538 : Int32).toNatClampNeg) (fm_A g15561 rR (by decide) rfl)).trans ((congrArg (fun z => aI z (x15538 : Int32).toNatClampNeg) (fm_A g15547 rR (by decide) rfl)).trans m15541))
            have z15566 : RF rw_X12_payRents f0 f15559 h0 := rf_fm hTH z15551 g15561 rh0 rfl
            have hF := FM.tr hF g15561 rfl
            refine lv_aload_n hx hb dX12_payRents_60 rfl (lv_at hl 3 rfl) ?_
            refine fg_RX12_8 E hW rh0 dX12_payRents_61 (fun a15567 m15568 r15569 => ?_)
            obtain rfl : pR = a15567 := (((fm_R g15561 rh0 rfl).trans ((fm_R g15547 rh0 rfl).trans m15536))).symm.trans m15568
            refine lv_iload_n hx hb dX12_payRents_64 rfl (lv_at hl 0 rfl) ?_
            refine lv_iconst (v := 4) hx hb dX12_payRents_65 (by decide) ?_
            refine q_iadd (Y := 4) hx hb dX12_payRents_66 rfl rfl (by omega) (fun x15570 h15571 => ?_)
            refine gl_822 E hW rR ⟨by omega, by omega⟩ dX12_payRents_67 (fun y15572 m15573 b15574 => ?_)
            refine u_iadd hx hb dX12_payRents_68 (fun x15575 => ?_)
            refine lv_istore (lv' := [(4, .int x15575), (3, .int x15192), (2, .int y12873), (1, .int x5), (0, .ref h0)]) hx hb dX12_payRents_69 hl (by decide) rfl (fun ls hl => ?_)
            refine lv_aload_n hx hb dX12_payRents_71 rfl (lv_at hl 4 rfl) ?_
            refine lv_iload_n hx hb dX12_payRents_72 rfl (lv_at hl 2 rfl) ?_
            refine t_callV (As := [.int y12873]) (rest := []) E hW (c_X12_keepsField l G cI cJ cZ cD cR cT kp L f15559 hW.2.2.2 _ h0 y12873 rh0 (by omega) (by rw [m15568]; exact (tx_rf hTX z15566 mR rfl rfl))) rh0 (by decide) rfl wk_X12_keepsField tw_1703 rfl ⟨Nat.le_of_ble_eq_true rfl, Nat.le_of_ble_eq_true rfl⟩ ⟨rfl, rfl⟩ hl.1 rfl (Nat.le_of_ble_eq_true rfl) dX12_payRents_73 ⟨Nat.le_of_ble_eq_true rfl, Nat.le_of_ble_eq_true rfl⟩ (fun v15576 f15577 H locs q15578 hW => ?_)
            obtain ⟨⟨x15580, rfl, p15581⟩, g15579⟩ := q15578
            have m15582 : aI (f15577 pR) (2 : Int32).toNatClampNeg = y12880 := ((congrArg (fun z => aI z (2 : Int32).toNatClampNeg) (fm_A g15579 rR (by decide) rfl)).trans ((congrArg (fun z => aI z (2 : Int32).toNatClampNeg) (fm_A g15561 rR (by decide) rfl)).trans m15550))
            have m15583 : aI (f15577 pR) (x15552 : Int32).toNatClampNeg = y15554 := ((congrArg (fun z => aI z (x15552 : Int32).toNatClampNeg) (fm_A g15579 rR (by decide) rfl)).trans ((congrArg (fun z => aI z (x15552 : Int32).toNatClampNeg) (fm_A g15561 rR (by decide) rfl)).trans m15555))
            have z15584 : RF rw_X12_payRents f0 f15577 h0 := rf_fm hTH z15566 g15579 rh0 rfl
            have hF := FM.tr hF g15579 rfl
            have J15597 : ∀ (f15592 : Nat → va_E) (y15595 : Int32) (m15593 : oR (f15592 h0) 2 = pR) (m15594 : aI (f15592 pR) (2 : Int32).toNatClampNeg = y12880) (z15596 : RF rw_X12_payRents f0 f15592 h0) (H : Heap) (locs : List Loc) (ls : Array Slot), WS G cI cJ cZ cD cR cT A kp L f15592 s H locs → FM kp L ms_X12_payRents f0 f15592 → lv_has ls 9 [(4, .int x15575), (3, .int x15192), (2, .int y12873), (1, .int x5), (0, .ref h0)] → W p l e ({ frames := 6, cells := 0, slots := 0, locals := 163 }) s m ([.ref h0] : List Value).toArray below meth c H locs 0 0 (MQ below (QT (po_X12_payRents kp L f0 h0) G cI cJ cZ cD cR cT A kp L) ([.ref h0] : List Value).toArray s 0 0 A) (F0 m 89 ls [.int y15595]) := by
              intro f15592 y15595 m15593 m15594 z15596 H locs ls hW hF hl
              clear b15203 c15531 p15549 h15553 c15557 p15563 p15581
              refine lv_istore (lv' := [(5, .int y15595), (4, .int x15575), (3, .int x15192), (2, .int y12873), (1, .int x5), (0, .ref h0)]) hx hb dX12_payRents_89 hl (by decide) rfl (fun ls hl => ?_)
              refine lv_aload_n hx hb dX12_payRents_91 rfl (lv_at hl 5 rfl) ?_
              refine fg_RX12_8 E hW rh0 dX12_payRents_92 (fun a15598 m15599 r15600 => ?_)
              obtain rfl : pR = a15598 := (m15593).symm.trans m15599
              refine lv_iload_n hx hb dX12_payRents_95 rfl (lv_at hl 2 rfl) ?_
              refine lv_iconst (v := 3) hx hb dX12_payRents_96 (by decide) ?_
              refine q_iadd (Y := 3) hx hb dX12_payRents_97 rfl rfl (by omega) (fun x15601 h15602 => ?_)
              refine gl_822 E hW rR ⟨by omega, by omega⟩ dX12_payRents_98 (fun y15603 m15604 b15605 => ?_)
              have b15606 := rr_fhol (show RowInv _ from b15605) m15604 (by omega)
              refine t_callS (As := [.int y15603]) (rest := []) E hW (c_X12_personAt l G cI cJ cZ cD cR cT kp L f15592 hW.2.2.2 _ y15603 (by omega)) wk_X12_personAt tw_1572 rfl ⟨Nat.le_of_ble_eq_true rfl, Nat.le_of_ble_eq_true rfl⟩ ⟨rfl, rfl⟩ hl.1 rfl (Nat.le_of_ble_eq_true rfl) dX12_payRents_99 ⟨Nat.le_of_ble_eq_true rfl, Nat.le_of_ble_eq_true rfl⟩ (fun v15607 f15608 H locs q15609 hW => ?_)
              obtain ⟨⟨x15611, rfl, p15612⟩, g15610⟩ := q15609
              have z15613 : RF rw_X12_payRents f0 f15608 h0 := rf_fm hTH z15596 g15610 rh0 rfl
              have hF := FM.tr hF g15610 rfl
              refine lv_istore (lv' := [(6, .int x15611), (5, .int y15595), (4, .int x15575), (3, .int x15192), (2, .int y12873), (1, .int x5), (0, .ref h0)]) hx hb dX12_payRents_102 hl (by decide) rfl (fun ls hl => ?_)
              refine lv_iload hx hb dX12_payRents_104 (lv_at hl 1 rfl) ?_
              refine lv_aload_n hx hb dX12_payRents_106 rfl (lv_at hl 6 rfl) ?_
              refine fg_RX12_8 E hW rh0 dX12_payRents_107 (fun a15614 m15615 r15616 => ?_)
              obtain rfl : pR = a15614 := (((fm_R g15610 rh0 rfl).trans m15599)).symm.trans m15615
              refine lv_iload hx hb dX12_payRents_110 (lv_at hl 0 rfl) ?_
              refine lv_iconst (v := 1) hx hb dX12_payRents_112 (by decide) ?_
              refine q_iadd (Y := 1) hx hb dX12_payRents_113 rfl rfl (by omega) (fun x15617 h15618 => ?_)
              refine gl_822 E hW rR ⟨by omega, by omega⟩ dX12_payRents_114 (fun y15619 m15620 b15621 => ?_)
              refine u_isub hx hb dX12_payRents_115 (fun x15622 => ?_)
              refine lv_istore (lv' := [(7, .int x15622), (6, .int x15611), (5, .int y15595), (4, .int x15575), (3, .int x15192), (2, .int y12873), (1, .int x5), (0, .ref h0)]) hx hb dX12_payRents_116 hl (by decide) rfl (fun ls hl => ?_)
              refine lv_iload hx hb dX12_payRents_118 (lv_at hl 0 rfl) ?_
              have J15693 : ∀ (f15689 : Nat → va_E) (m15690 : oR (f15689 h0) 2 = pR) (m15691 : aI (f15689 pR) (2 : Int32).toNatClampNeg = y12880) (z15692 : RF rw_X12_payRents f0 f15689 h0) (H : Heap) (locs : List Loc) (ls : Array Slot), WS G cI cJ cZ cD cR cT A kp L f15689 s H locs → FM kp L ms_X12_payRents f0 f15689 → lv_has ls 9 [(7, .int x15622), (6, .int x15611), (5, .int y15595), (4, .int x15575), (3, .int x15192), (2, .int y12873), (1, .int x5), (0, .ref h0)] → W p l e ({ frames := 6, cells := 0, slots := 0, locals := 163 }) s m ([.ref h0] : List Value).toArray below meth c H locs 0 0 (MQ below (QT (po_X12_payRents kp L f0 h0) G cI cJ cZ cD cR cT A kp L) ([.ref h0] : List Value).toArray s 0 0 A) (F0 m 197 ls []) := by
                intro f15689 m15690 m15691 z15692 H locs ls hW hF hl
                refine lv_iload hx hb dX12_payRents_197 (lv_at hl 2 rfl) ?_
                refine lv_aload_n hx hb dX12_payRents_199 rfl (lv_at hl 7 rfl) ?_
                refine fg_RX12_8 E hW rh0 dX12_payRents_200 (fun a15694 m15695 r15696 => ?_)
                obtain rfl : pR = a15694 := (m15690).symm.trans m15695
                refine lv_iload hx hb dX12_payRents_203 (lv_at hl 1 rfl) ?_
                refine lv_iconst (v := 1) hx hb dX12_payRents_205 (by decide) ?_
                refine q_iadd (Y := 1) hx hb dX12_payRents_206 rfl rfl (by omega) (fun x15697 h15698 => ?_)
                refine gl_822 E hW rR ⟨by omega, by omega⟩ dX12_payRents_207 (fun y15699 m15700 b15701 => ?_)
                have J15712 : ∀ (y15711 : Int32) (H : Heap) (locs : List Loc) (ls : Array Slot), WS G cI cJ cZ cD cR cT A kp L f15689 s H locs → FM kp L ms_X12_payRents f0 f15689 → lv_has ls 9 [(7, .int x15622), (6, .int x15611), (5, .int y15595), (4, .int x15575), (3, .int x15192), (2, .int y12873), (1, .int x5), (0, .ref h0)] → W p l e ({ frames := 6, cells := 0, slots := 0, locals := 163 }) s m ([.ref h0] : List Value).toArray below meth c H locs 0 0 (MQ below (QT (po_X12_payRents kp L f0 h0) G cI cJ cZ cD cR cT A kp L) ([.ref h0] : List Value).toArray s 0 0 A) (F0 m 225 ls [.int y15711]) := by
                  intro y15711 H locs ls hW hF hl
                  refine lv_istore (lv' := [(8, .int y15711), (7, .int x15622), (6, .int x15611), (5, .int y15595), (4, .int x15575), (3, .int x15192), (2, .int y12873), (1, .int x5), (0, .ref h0)]) hx hb dX12_payRents_225 hl (by decide) rfl (fun ls hl => ?_)
                  refine lv_aload_n hx hb dX12_payRents_227 rfl (lv_at hl 8 rfl) ?_
                  refine fg_RX12_8 E hW rh0 dX12_payRents_228 (fun a15713 m15714 r15715 => ?_)
                  obtain rfl : pR = a15713 := (m15695).symm.trans m15714
                  refine lv_iload hx hb dX12_payRents_231 (lv_at hl 2 rfl) ?_
                  refine lv_iconst (v := 1) hx hb dX12_payRents_233 (by decide) ?_
                  refine q_iadd (Y := 1) hx hb dX12_payRents_234 rfl rfl (by omega) (fun x15716 h15717 => ?_)
                  refine lv_dup2_11 hx hb dX12_payRents_235 rfl rfl ?_
                  refine gl_822 E hW rR ⟨by omega, by omega⟩ dX12_payRents_236 (fun y15718 m15719 b15720 => ?_)
                  have m15721 : aI (f15689 pR) (x15716 : Int32).toNatClampNeg = y15699 := by rw [show (x15716 : Int32) = x15697 from Int32.toInt_inj.mp (by omega)]; exact m15700
                  obtain rfl : y15699 = y15718 := (m15721).symm.trans m15719
                  refine lv_iload hx hb dX12_payRents_237 (lv_at hl 0 rfl) ?_
                  refine u_isub hx hb dX12_payRents_239 (fun x15722 => ?_)
                  refine gs_822 E hW rR ⟨by omega, by omega⟩ (fun hc => rr_up hc (by omega) (by omega) (by unfold rbI; omega)) dX12_payRents_240 (fun f15723 H locs e15724 n15725 g15726 hW => ?_)
                  have z15727 : RF rw_X12_payRents f0 f15723 h0 := rf_st (lo := 13) (hi := 333) z15692 mR e15724 (by omega) rfl
                  have hF := FM.tr hF g15726 rfl
                  refine lv_aload_n hx hb dX12_payRents_241 rfl (lv_at hl 8 rfl) ?_
                  refine fg_RX12_8 E hW rh0 dX12_payRents_242 (fun a15728 m15729 r15730 => ?_)
                  obtain rfl : pR = a15728 := (((fm_R g15726 rh0 rfl).trans m15714)).symm.trans m15729
                  refine lv_aload_n hx hb dX12_payRents_245 rfl (lv_at hl 8 rfl) ?_
                  refine fg_RX12_8 E hW rh0 dX12_payRents_246 (fun a15731 m15732 r15733 => ?_)
                  obtain rfl : pR = a15731 := (m15729).symm.trans m15732
                  refine lv_iload_n hx hb dX12_payRents_249 rfl (lv_at hl 5 rfl) ?_
                  refine gl_822 E hW rR ⟨by omega, by omega⟩ dX12_payRents_250 (fun y15734 m15735 b15736 => ?_)
                  have b15737 := rr_fest (show RowInv _ from b15736) m15735 (by omega)
                  refine t_callS (As := [.int y15734]) (rest := [.ref pR]) E hW (c_X12_estateAt l G cI cJ cZ cD cR cT kp L f15723 hW.2.2.2 _ y15734 (by omega)) wk_X12_estateAt tw_1611 rfl ⟨Nat.le_of_ble_eq_true rfl, Nat.le_of_ble_eq_true rfl⟩ ⟨rfl, rfl⟩ hl.1 rfl (Nat.le_of_ble_eq_true rfl) dX12_payRents_251 ⟨Nat.le_of_ble_eq_true rfl, Nat.le_of_ble_eq_true rfl⟩ (fun v15738 f15739 H locs q15740 hW => ?_)
                  obtain ⟨⟨x15742, rfl, p15743⟩, g15741⟩ := q15740
                  have m15744 : aI (f15739 pR) (2 : Int32).toNatClampNeg = y12880 := ((congrArg (fun z => aI z (2 : Int32).toNatClampNeg) (fm_A g15741 rR (by decide) rfl)).trans (show aI (f15723 pR) (2 : Int32).toNatClampNeg = y12880 from by rw [e15724, up_n (tn_ne (by omega) (by decide) (by have hk0 : (2 : Int32).toInt = 2 := rfl; omega))]; exact m15691))
                  have m15745 : aI (f15739 pR) (x15716 : Int32).toNatClampNeg = x15722 := ((congrArg (fun z => aI z (x15716 : Int32).toNatClampNeg) (fm_A g15741 rR (by decide) rfl)).trans (show aI (f15723 pR) (x15716 : Int32).toNatClampNeg = x15722 from by rw [e15724]; exact up_s))
                  have z15746 : RF rw_X12_payRents f0 f15739 h0 := rf_fm hTH z15727 g15741 rh0 rfl
                  have hF := FM.tr hF g15741 rfl
                  refine lv_dup2_11 hx hb dX12_payRents_254 rfl rfl ?_
                  refine gl_822 E hW rR ⟨by omega, by omega⟩ dX12_payRents_255 (fun y15747 m15748 b15749 => ?_)
                  refine lv_iload hx hb dX12_payRents_256 (lv_at hl 0 rfl) ?_
                  refine u_iadd hx hb dX12_payRents_258 (fun x15750 => ?_)
                  refine gs_822 E hW rR ⟨by omega, by omega⟩ (fun hc => rr_up hc (by omega) (by omega) (by unfold rbI; omega)) dX12_payRents_259 (fun f15751 H locs e15752 n15753 g15754 hW => ?_)
                  have z15755 : RF rw_X12_payRents f0 f15751 h0 := rf_st (lo := 340) (hi := 361) z15746 mR e15752 (by omega) rfl
                  have hF := FM.tr hF g15754 rfl
                  refine lv_aload_n hx hb dX12_payRents_260 rfl (lv_at hl 8 rfl) ?_
                  refine fg_RX12_8 E hW rh0 dX12_payRents_261 (fun a15756 m15757 r15758 => ?_)
                  obtain rfl : pR = a15756 := (((fm_R g15754 rh0 rfl).trans ((fm_R g15741 rh0 rfl).trans m15732))).symm.trans m15757
                  refine lv_iload_n hx hb dX12_payRents_264 rfl (lv_at hl 5 rfl) ?_
                  refine lv_iconst (v := 4) hx hb dX12_payRents_265 (by decide) ?_
                  refine q_iadd (Y := 4) hx hb dX12_payRents_266 rfl rfl (by omega) (fun x15759 h15760 => ?_)
                  refine lv_iload hx hb dX12_payRents_267 (lv_at hl 4 rfl) ?_
                  refine lv_iload hx hb dX12_payRents_269 (lv_at hl 0 rfl) ?_
                  refine u_isub hx hb dX12_payRents_271 (fun x15761 => ?_)
                  refine lv_ldc (v := 10000000) hx hb hown (hts _ tw_1600) dX12_payRents_272 ?_
                  have J15764 : ∀ (y15763 : Int32) (H : Heap) (locs : List Loc) (ls : Array Slot), WS G cI cJ cZ cD cR cT A kp L f15751 s H locs → FM kp L ms_X12_payRents f0 f15751 → lv_has ls 9 [(8, .int y15711), (7, .int x15622), (6, .int x15611), (5, .int y15595), (4, .int x15575), (3, .int x15192), (2, .int y12873), (1, .int x5), (0, .ref h0)] → W p l e ({ frames := 6, cells := 0, slots := 0, locals := 163 }) s m ([.ref h0] : List Value).toArray below meth c H locs 0 0 (MQ below (QT (po_X12_payRents kp L f0 h0) G cI cJ cZ cD cR cT A kp L) ([.ref h0] : List Value).toArray s 0 0 A) (F0 m 287 ls [.int y15763, .int x15759, .ref pR]) := by
                    intro y15763 H locs ls hW hF hl
                    refine gs_822 E hW rR ⟨by omega, by omega⟩ (fun hc => rr_up hc (by omega) (by omega) (by unfold rbI; omega)) dX12_payRents_287 (fun f15765 H locs e15766 n15767 g15768 hW => ?_)
                    have z15769 : RF rw_X12_payRents f0 f15765 h0 := rf_st (lo := 368) (hi := 680) z15755 mR e15766 (by omega) rfl
                    have hF := FM.tr hF g15768 rfl
                    exact J15528 f15765 ((fm_R g15768 rh0 rfl).trans m15757) (show aI (f15765 pR) (2 : Int32).toNatClampNeg = y12880 from by rw [e15766, up_n (tn_ne (by omega) (by decide) (by have hk0 : (2 : Int32).toInt = 2 := rfl; omega))]; exact (show aI (f15751 pR) (2 : Int32).toNatClampNeg = y12880 from by rw [e15752, up_n (tn_ne (by omega) (by decide) (by have hk0 : (2 : Int32).toInt = 2 := rfl; omega))]; exact m15744)) z15769 _ _ _ hW hF (lv_sub hl [5, 6, 7, 8] rfl)
                  refine q_icmp_le (Y := 10000000) (tgt := 282) hx hb dX12_payRents_274 (by decide) rfl rfl (fun c15770 => ?_) (fun c15770 => ?_)
                  · refine lv_iload hx hb dX12_payRents_282 (lv_at hl 4 rfl) ?_
                    refine lv_iload hx hb dX12_payRents_284 (lv_at hl 0 rfl) ?_
                    refine u_isub hx hb dX12_payRents_286 (fun x15771 => ?_)
                    exact J15764 x15771  _ _ _ hW hF (lv_sub hl [0, 1, 2, 3, 4, 5, 6, 7, 8] rfl)
                  · refine lv_ldc (v := 10000000) hx hb hown (hts _ tw_1600) dX12_payRents_277 ?_
                    refine lv_goto (tgt := 287) hx hb dX12_payRents_279 (by decide) ?_
                    exact J15764 10000000  _ _ _ hW hF (lv_sub hl [0, 1, 2, 3, 4, 5, 6, 7, 8] rfl)
                refine q_icmp_le (tgt := 223) hx hb dX12_payRents_208 (by decide) rfl rfl (fun c15772 => ?_) (fun c15772 => ?_)
                · refine lv_iload hx hb dX12_payRents_223 (lv_at hl 2 rfl) ?_
                  exact J15712 y15595  _ _ _ hW hF (lv_sub hl [0, 1, 2, 3, 4, 5, 6, 7] rfl)
                · have hb15773 : y15699.toInt ≤ 2147483646 := by have := i32_b y15595; omega
                  have hb15774 : -2147483647 ≤ y15595.toInt := by have := i32_b y15699; omega
                  refine lv_aload_n hx hb dX12_payRents_211 rfl (lv_at hl 7 rfl) ?_
                  refine fg_RX12_8 E hW rh0 dX12_payRents_212 (fun a15775 m15776 r15777 => ?_)
                  obtain rfl : pR = a15775 := (m15695).symm.trans m15776
                  refine lv_iload hx hb dX12_payRents_215 (lv_at hl 1 rfl) ?_
                  refine lv_iconst (v := 1) hx hb dX12_payRents_217 (by decide) ?_
                  refine q_iadd (Y := 1) hx hb dX12_payRents_218 rfl rfl (by omega) (fun x15778 h15779 => ?_)
                  refine gl_822 E hW rR ⟨by omega, by omega⟩ dX12_payRents_219 (fun y15780 m15781 b15782 => ?_)
                  have m15783 : aI (f15689 pR) (x15778 : Int32).toNatClampNeg = y15699 := by rw [show (x15778 : Int32) = x15697 from Int32.toInt_inj.mp (by omega)]; exact m15700
                  obtain rfl : y15699 = y15780 := (m15783).symm.trans m15781
                  refine lv_goto (tgt := 225) hx hb dX12_payRents_220 (by decide) ?_
                  exact J15712 y15699  _ _ _ hW hF (lv_sub hl [0, 1, 2, 3, 4, 5, 6, 7] rfl)
              refine q_if_le (tgt := 197) hx hb dX12_payRents_120 (by decide) rfl (fun c15784 => ?_) (fun c15784 => ?_)
              · exact J15693 f15608 m15615 ((congrArg (fun z => aI z (2 : Int32).toNatClampNeg) (fm_A g15610 rR (by decide) rfl)).trans m15594) z15613 _ _ _ hW hF (lv_sub hl [0, 1, 2, 3, 4, 5, 6, 7] rfl)
              · refine lv_iload_n hx hb dX12_payRents_123 rfl (lv_at hl 6 rfl) ?_
                refine q_if_le (tgt := 197) hx hb dX12_payRents_124 (by decide) rfl (fun c15785 => ?_) (fun c15785 => ?_)
                · exact J15693 f15608 m15615 ((congrArg (fun z => aI z (2 : Int32).toNatClampNeg) (fm_A g15610 rR (by decide) rfl)).trans m15594) z15613 _ _ _ hW hF (lv_sub hl [0, 1, 2, 3, 4, 5, 6, 7] rfl)
                · refine lv_iload hx hb dX12_payRents_127 (lv_at hl 0 rfl) ?_
                  refine lv_iload_n hx hb dX12_payRents_129 rfl (lv_at hl 6 rfl) ?_
                  refine u_iadd hx hb dX12_payRents_130 (fun x15786 => ?_)
                  refine lv_iconst (v := 1) hx hb dX12_payRents_131 (by decide) ?_
                  refine u_isub hx hb dX12_payRents_132 (fun x15787 => ?_)
                  refine lv_iload_n hx hb dX12_payRents_133 rfl (lv_at hl 6 rfl) ?_
                  refine u_idiv hx hb dX12_payRents_134 (by omega) (fun x15788 => ?_)
                  refine lv_istore (lv' := [(8, .int x15788), (7, .int x15622), (6, .int x15611), (5, .int y15595), (4, .int x15575), (3, .int x15192), (2, .int y12873), (1, .int x5), (0, .ref h0)]) hx hb dX12_payRents_135 hl (by decide) rfl (fun ls hl => ?_)
                  refine lv_iload hx hb dX12_payRents_137 (lv_at hl 0 rfl) ?_
                  refine lv_aload_n hx hb dX12_payRents_139 rfl (lv_at hl 8 rfl) ?_
                  refine fg_RX12_8 E hW rh0 dX12_payRents_140 (fun a15789 m15790 r15791 => ?_)
                  obtain rfl : pR = a15789 := (m15615).symm.trans m15790
                  refine lv_iload hx hb dX12_payRents_143 (lv_at hl 2 rfl) ?_
                  refine lv_iconst (v := 4) hx hb dX12_payRents_145 (by decide) ?_
                  refine q_iadd (Y := 4) hx hb dX12_payRents_146 rfl rfl (by omega) (fun x15792 h15793 => ?_)
                  refine gl_822 E hW rR ⟨by omega, by omega⟩ dX12_payRents_147 (fun y15794 m15795 b15796 => ?_)
                  have J15807 : ∀ (y15806 : Int32) (H : Heap) (locs : List Loc) (ls : Array Slot), WS G cI cJ cZ cD cR cT A kp L f15608 s H locs → FM kp L ms_X12_payRents f0 f15608 → lv_has ls 9 [(8, .int x15788), (7, .int x15622), (6, .int x15611), (5, .int y15595), (4, .int x15575), (3, .int x15192), (2, .int y12873), (1, .int x5), (0, .ref h0)] → W p l e ({ frames := 6, cells := 0, slots := 0, locals := 163 }) s m ([.ref h0] : List Value).toArray below meth c H locs 0 0 (MQ below (QT (po_X12_payRents kp L f0 h0) G cI cJ cZ cD cR cT A kp L) ([.ref h0] : List Value).toArray s 0 0 A) (F0 m 165 ls [.int y15806]) := by
                    intro y15806 H locs ls hW hF hl
                    refine lv_istore (lv' := [(8, .int y15806), (7, .int x15622), (6, .int x15611), (5, .int y15595), (4, .int x15575), (3, .int x15192), (2, .int y12873), (1, .int x5), (0, .ref h0)]) hx hb dX12_payRents_165 hl (by decide) rfl (fun ls hl => ?_)
                    refine lv_aload_n hx hb dX12_payRents_167 rfl (lv_at hl 8 rfl) ?_
                    refine fg_RX12_8 E hW rh0 dX12_payRents_168 (fun a15808 m15809 r15810 => ?_)
                    obtain rfl : pR = a15808 := (m15790).symm.trans m15809
                    refine lv_iload hx hb dX12_payRents_171 (lv_at hl 2 rfl) ?_
                    refine lv_iconst (v := 4) hx hb dX12_payRents_173 (by decide) ?_
                    refine q_iadd (Y := 4) hx hb dX12_payRents_174 rfl rfl (by omega) (fun x15811 h15812 => ?_)
                    refine lv_dup2_11 hx hb dX12_payRents_175 rfl rfl ?_
                    refine gl_822 E hW rR ⟨by omega, by omega⟩ dX12_payRents_176 (fun y15813 m15814 b15815 => ?_)
                    have m15816 : aI (f15608 pR) (x15811 : Int32).toNatClampNeg = y15794 := by rw [show (x15811 : Int32) = x15792 from Int32.toInt_inj.mp (by omega)]; exact m15795
                    obtain rfl : y15794 = y15813 := (m15816).symm.trans m15814
                    refine lv_iload hx hb dX12_payRents_177 (lv_at hl 0 rfl) ?_
                    refine u_isub hx hb dX12_payRents_179 (fun x15817 => ?_)
                    refine gs_822 E hW rR ⟨by omega, by omega⟩ (fun hc => rr_up hc (by omega) (by omega) (by unfold rbI; omega)) dX12_payRents_180 (fun f15818 H locs e15819 n15820 g15821 hW => ?_)
                    have z15822 : RF rw_X12_payRents f0 f15818 h0 := rf_st (lo := 16) (hi := 336) z15613 mR e15819 (by omega) rfl
                    have hF := FM.tr hF g15821 rfl
                    refine lv_aload_n hx hb dX12_payRents_181 rfl (lv_at hl 8 rfl) ?_
                    refine fg_RX12_8 E hW rh0 dX12_payRents_182 (fun a15823 m15824 r15825 => ?_)
                    obtain rfl : pR = a15823 := (((fm_R g15821 rh0 rfl).trans m15809)).symm.trans m15824
                    refine lv_iload hx hb dX12_payRents_185 (lv_at hl 2 rfl) ?_
                    refine lv_iconst (v := 1) hx hb dX12_payRents_187 (by decide) ?_
                    refine q_iadd (Y := 1) hx hb dX12_payRents_188 rfl rfl (by omega) (fun x15826 h15827 => ?_)
                    refine lv_dup2_11 hx hb dX12_payRents_189 rfl rfl ?_
                    refine gl_822 E hW rR ⟨by omega, by omega⟩ dX12_payRents_190 (fun y15828 m15829 b15830 => ?_)
                    have m15831 : aI (f15818 pR) (x15826 : Int32).toNatClampNeg = y15619 := by rw [show (x15826 : Int32) = x15617 from Int32.toInt_inj.mp (by omega)]; exact (show aI (f15818 pR) (x15617 : Int32).toNatClampNeg = y15619 from by rw [e15819, up_n (tn_ne (by omega) (by omega) (by omega))]; exact m15620)
                    obtain rfl : y15619 = y15828 := (m15831).symm.trans m15829
                    refine lv_iload hx hb dX12_payRents_191 (lv_at hl 0 rfl) ?_
                    refine lv_iload_n hx hb dX12_payRents_193 rfl (lv_at hl 7 rfl) ?_
                    refine u_imul hx hb dX12_payRents_194 (fun x15832 => ?_)
                    refine u_iadd hx hb dX12_payRents_195 (fun x15833 => ?_)
                    refine gs_822 E hW rR ⟨by omega, by omega⟩ (fun hc => rr_up hc (by omega) (by omega) (by unfold rbI; omega)) dX12_payRents_196 (fun f15834 H locs e15835 n15836 g15837 hW => ?_)
                    have z15838 : RF rw_X12_payRents f0 f15834 h0 := rf_st (lo := 13) (hi := 333) z15822 mR e15835 (by omega) rfl
                    have hF := FM.tr hF g15837 rfl
                    exact J15693 f15834 ((fm_R g15837 rh0 rfl).trans m15824) (show aI (f15834 pR) (2 : Int32).toNatClampNeg = y12880 from by rw [e15835, up_n (tn_ne (by omega) (by decide) (by have hk0 : (2 : Int32).toInt = 2 := rfl; omega))]; exact (show aI (f15818 pR) (2 : Int32).toNatClampNeg = y12880 from by rw [e15819, up_n (tn_ne (by omega) (by decide) (by have hk0 : (2 : Int32).toInt = 2 := rfl; omega))]; exact ((congrArg (fun z => aI z (2 : Int32).toNatClampNeg) (fm_A g15610 rR (by decide) rfl)).trans m15594))) z15838 _ _ _ hW hF (lv_sub hl [1, 2, 3, 4, 5, 6, 7, 8] rfl)
                  refine q_icmp_le (tgt := 163) hx hb dX12_payRents_148 (by decide) rfl rfl (fun c15839 => ?_) (fun c15839 => ?_)
                  · refine lv_iload hx hb dX12_payRents_163 (lv_at hl 0 rfl) ?_
                    exact J15807 x15788  _ _ _ hW hF (lv_sub hl [0, 1, 2, 3, 4, 5, 6, 7, 8] rfl)
                  · have hb15840 : y15794.toInt ≤ 2147483646 := by have := i32_b x15788; omega
                    have hb15841 : -2147483647 ≤ x15788.toInt := by have := i32_b y15794; omega
                    refine lv_aload_n hx hb dX12_payRents_151 rfl (lv_at hl 8 rfl) ?_
                    refine fg_RX12_8 E hW rh0 dX12_payRents_152 (fun a15842 m15843 r15844 => ?_)
                    obtain rfl : pR = a15842 := (m15790).symm.trans m15843
                    refine lv_iload hx hb dX12_payRents_155 (lv_at hl 2 rfl) ?_
                    refine lv_iconst (v := 4) hx hb dX12_payRents_157 (by decide) ?_
                    refine q_iadd (Y := 4) hx hb dX12_payRents_158 rfl rfl (by omega) (fun x15845 h15846 => ?_)
                    refine gl_822 E hW rR ⟨by omega, by omega⟩ dX12_payRents_159 (fun y15847 m15848 b15849 => ?_)
                    have m15850 : aI (f15608 pR) (x15845 : Int32).toNatClampNeg = y15794 := by rw [show (x15845 : Int32) = x15792 from Int32.toInt_inj.mp (by omega)]; exact m15795
                    obtain rfl : y15794 = y15847 := (m15850).symm.trans m15848
                    refine lv_goto (tgt := 165) hx hb dX12_payRents_160 (by decide) ?_
                    exact J15807 y15794  _ _ _ hW hF (lv_sub hl [0, 1, 2, 3, 4, 5, 6, 7, 8] rfl)
            refine q_if_eq (tgt := 87) hx hb dX12_payRents_76 (by decide) rfl (fun c15851 => ?_) (fun c15851 => ?_)
            · refine lv_iload hx hb dX12_payRents_87 (lv_at hl 0 rfl) ?_
              exact J15597 f15577 x15575 ((fm_R g15579 rh0 rfl).trans m15568) m15582 z15584 _ _ _ hW hF (lv_sub hl [0, 1, 2, 3, 4] rfl)
            · refine lv_aload_n hx hb dX12_payRents_79 rfl (lv_at hl 4 rfl) ?_
              refine lv_iload_n hx hb dX12_payRents_80 rfl (lv_at hl 2 rfl) ?_
              refine t_callV (As := [.int y12873]) (rest := []) E hW (c_X12_fairOf l G cI cJ cZ cD cR cT kp L f15577 hW.2.2.2 _ h0 y12873 rh0 (by omega) (by rw [((fm_R g15579 rh0 rfl).trans m15568)]; exact (tx_rf hTX z15584 mR rfl rfl))) rh0 (by decide) rfl wk_X12_fairOf tw_1661 rfl ⟨Nat.le_of_ble_eq_true rfl, Nat.le_of_ble_eq_true rfl⟩ ⟨rfl, rfl⟩ hl.1 rfl (Nat.le_of_ble_eq_true rfl) dX12_payRents_81 ⟨Nat.le_of_ble_eq_true rfl, Nat.le_of_ble_eq_true rfl⟩ (fun v15852 f15853 H locs q15854 hW => ?_)
              obtain ⟨⟨x15856, rfl, p15857⟩, g15855⟩ := q15854
              clear p15857
              have m15858 : aI (f15853 pR) (x15198 : Int32).toNatClampNeg = y15200 := ((congrArg (fun z => aI z (x15198 : Int32).toNatClampNeg) (fm_A g15855 rR (by decide) rfl)).trans ((congrArg (fun z => aI z (x15198 : Int32).toNatClampNeg) (fm_A g15579 rR (by decide) rfl)).trans m15564))
              have m15859 : aI (f15853 pR) (x15538 : Int32).toNatClampNeg = y15200 := ((congrArg (fun z => aI z (x15538 : Int32).toNatClampNeg) (fm_A g15855 rR (by decide) rfl)).trans ((congrArg (fun z => aI z (x15538 : Int32).toNatClampNeg) (fm_A g15579 rR (by decide) rfl)).trans m15565))
              have m15860 : aI (f15853 pR) (x15570 : Int32).toNatClampNeg = y15572 := ((congrArg (fun z => aI z (x15570 : Int32).toNatClampNeg) (fm_A g15855 rR (by decide) rfl)).trans ((congrArg (fun z => aI z (x15570 : Int32).toNatClampNeg) (fm_A g15579 rR (by decide) rfl)).trans m15573))
              have z15861 : RF rw_X12_payRents f0 f15853 h0 := rf_fm hTH z15584 g15855 rh0 rfl
              have hF := FM.tr hF g15855 rfl
              refine lv_goto (tgt := 89) hx hb dX12_payRents_84 (by decide) ?_
              exact J15597 f15853 x15856 ((fm_R g15855 rh0 rfl).trans ((fm_R g15579 rh0 rfl).trans m15568)) ((congrArg (fun z => aI z (2 : Int32).toNatClampNeg) (fm_A g15855 rR (by decide) rfl)).trans m15582) z15861 _ _ _ hW hF (lv_sub hl [0, 1, 2, 3, 4] rfl)
  have hk15862 : (0 : Int32).toInt = 0 := rfl
  exact L12876 41 f2 0 ((fm_R g4 rh0 rfl).trans mR) (by decide) z7 (by omega) _ _ _ hW hF (lv_sub hl [0, 1, 2] rfl)
def rw_X12_goWeek : List (Nat × Nat) := [(4, 4), (8, 9), (13, 1043)]
def ms_X12_goWeek : List (Nat × Nat) := [(12, 33), (12, 34), (12, 35), (12, 36), (12, 37), (12, 38), (822, 0), (849, 0), (850, 0), (851, 0), (852, 0), (859, 0)]
def po_X12_goWeek (kp : Nat → Nat) (L : List Nat) (f0 : Nat → va_E) (h0 : Nat) : Option Value → (Nat → va_E) → Prop := fun v f => v = none ∧ FM kp L ms_X12_goWeek f0 f ∧ ((aI (f (oR (f0 h0) 2)) (8 : Int32).toNatClampNeg).toInt = (aI (f0 (oR (f0 h0) 2)) (8 : Int32).toNatClampNeg).toInt + 1) ∧ (RF rw_X12_goWeek f0 f h0)
set_option maxHeartbeats 4000000 in
set_option maxRecDepth 100000 in
theorem c_X12_goWeek (l : Launch) (G : va_G) (cI cJ cZ cD cR cT : ClassId) (kp : Nat → Nat) (L : List Nat) (f0 : Nat → va_E) (hTH : TH cI cJ cZ cD cR cT kp L f0) (sz : Nat) (h0 : Nat) (rh0 : RK kp L h0 12) (hr8 : (0 : Int) ≤ (aI (f0 (oR (f0 h0) 2)) (8 : Int32).toNatClampNeg).toInt ∧ (aI (f0 (oR (f0 h0) 2)) (8 : Int32).toNatClampNeg).toInt ≤ 398) (hTX : TX (aI (f0 (oR (f0 h0) 2)))) : Met l yX12_goWeek (Cond.code yX12_goWeek cX12_goWeek 3 none :: wTab) ({ frames := 7, cells := 0, slots := 0, locals := 191 }) (va_Pc [.ref h0] (PreW G (tys6 cI cJ cZ cD cR cT) (va_pl L f0) sz)) (QT (po_X12_goWeek kp L f0 h0) G cI cJ cZ cD cR cT (va_A (va_pl L f0) sz) kp L) 0 0 (va_A (va_pl L f0) sz) := by
  refine metT (by decide) (Nat.le_of_ble_eq_true rfl) hTH ?_
  intro p e s m below meth c A ls E hW hl
  obtain ⟨hx, hb, -, hml, hown, hts, -, -, -⟩ := id E
  have hF : FM kp L ms_X12_goWeek f0 f0 := FM.rf
  have hl : lv_has ls 3 [(0, .ref h0)] := hl
  obtain ⟨pR, mR⟩ : ∃ x : Nat, oR (f0 h0) 2 = x := ⟨_, rfl⟩
  have rR : RK kp L pR 822 := by rw [← mR]; exact th_ref hTH rh0 (by decide) (by decide) rfl
  rw [mR] at hr8
  obtain ⟨p8, mp8⟩ : ∃ x : Int32, aI (f0 pR) (8 : Int32).toNatClampNeg = x := ⟨_, rfl⟩
  rw [mp8] at hr8
  rw [mR] at hTX
  refine lv_aload_n hx hb dX12_goWeek_0 rfl (lv_at hl 0 rfl) ?_
  refine t_callV (As := []) (rest := []) E hW (c_X12_forceNow l G cI cJ cZ cD cR cT kp L f0 hW.2.2.2 _ h0 rh0 (by rw [mR]; exact hTX)) rh0 (by decide) rfl wk_X12_forceNow tw_1647 rfl ⟨Nat.le_of_ble_eq_true rfl, Nat.le_of_ble_eq_true rfl⟩ ⟨rfl, rfl⟩ hl.1 rfl (Nat.le_of_ble_eq_true rfl) dX12_goWeek_1 ⟨Nat.le_of_ble_eq_true rfl, Nat.le_of_ble_eq_true rfl⟩ (fun v1 f2 H locs q3 hW => ?_)
  obtain ⟨rfl, g4⟩ := q3
  have z5 : RF rw_X12_goWeek f0 f2 h0 := rf_fm hTH rf_rf g4 rh0 rfl
  have hF := FM.tr hF g4 rfl
  refine lv_aload_n hx hb dX12_goWeek_4 rfl (lv_at hl 0 rfl) ?_
  refine t_callV (As := []) (rest := []) E hW (c_X12_bringCrops l G cI cJ cZ cD cR cT kp L f2 hW.2.2.2 _ h0 rh0) rh0 (by decide) rfl wk_X12_bringCrops tw_1922 rfl ⟨Nat.le_of_ble_eq_true rfl, Nat.le_of_ble_eq_true rfl⟩ ⟨rfl, rfl⟩ hl.1 rfl (Nat.le_of_ble_eq_true rfl) dX12_goWeek_5 ⟨Nat.le_of_ble_eq_true rfl, Nat.le_of_ble_eq_true rfl⟩ (fun v6 f7 H locs q8 hW => ?_)
  obtain ⟨rfl, g9, h10⟩ := q8
  have z11 : RF rw_X12_goWeek f0 f7 h0 := rf_call z5 h10 mR ((fm_R g4 rh0 rfl).trans mR) rfl
  have hF := FM.tr hF g9 rfl
  refine lv_aload_n hx hb dX12_goWeek_8 rfl (lv_at hl 0 rfl) ?_
  refine fg_RX12_8 E hW rh0 dX12_goWeek_9 (fun a12 m13 r14 => ?_)
  obtain rfl : pR = a12 := (((fm_R g9 rh0 rfl).trans ((fm_R g4 rh0 rfl).trans mR))).symm.trans m13
  refine lv_bipush (v := 8) hx hb dX12_goWeek_12 (by decide) ?_
  refine gl_822 E hW rR (by decide) dX12_goWeek_14 (fun y15 m16 b17 => ?_)
  obtain rfl : p8 = y15 := (((show aI (f7 pR) (8 : Int32).toNatClampNeg = aI (f2 pR) (8 : Int32).toNatClampNeg from rf_get h10 ((fm_R g4 rh0 rfl).trans mR) 8 rfl).trans ((congrArg (fun z => aI z (8 : Int32).toNatClampNeg) (fm_A g4 rR (by decide) rfl)).trans mp8))).symm.trans m16
  refine lv_bipush (v := 13) hx hb dX12_goWeek_15 (by decide) ?_
  refine q_irem (Y := 13) hx hb dX12_goWeek_17 rfl rfl (by omega) (by omega) (fun x18 h19 => ?_)
  have J1298 : ∀ (f1294 : Nat → va_E) (m1295 : oR (f1294 h0) 2 = pR) (m1296 : aI (f1294 pR) (8 : Int32).toNatClampNeg = p8) (z1297 : RF rw_X12_goWeek f0 f1294 h0) (H : Heap) (locs : List Loc) (ls : Array Slot), WS G cI cJ cZ cD cR cT A kp L f1294 s H locs → FM kp L ms_X12_goWeek f0 f1294 → lv_has ls 3 [(0, .ref h0)] → W p l e ({ frames := 7, cells := 0, slots := 0, locals := 191 }) s m ([.ref h0] : List Value).toArray below meth c H locs 0 0 (MQ below (QT (po_X12_goWeek kp L f0 h0) G cI cJ cZ cD cR cT A kp L) ([.ref h0] : List Value).toArray s 0 0 A) (F0 m 84 ls []) := by
    intro f1294 m1295 m1296 z1297 H locs ls hW hF hl
    refine lv_iconst (v := 0) hx hb dX12_goWeek_84 (by decide) ?_
    refine lv_istore_n (lv' := [(1, .int 0), (0, .ref h0)]) hx hb dX12_goWeek_85 rfl hl (by decide) rfl (fun ls hl => ?_)
    have L2680 : ∀ (n : Nat), ∀ (f2674 : Nat → va_E) (y2677 : Int32) (m2675 : oR (f2674 h0) 2 = pR) (m2676 : aI (f2674 pR) (8 : Int32).toNatClampNeg = p8) (b2678 : (0 : Int) ≤ y2677.toInt ∧ y2677.toInt ≤ 60) (z2679 : RF rw_X12_goWeek f0 f2674 h0) (hm : (61 : Int) - y2677.toInt ≤ n) (H : Heap) (locs : List Loc) (ls : Array Slot), WS G cI cJ cZ cD cR cT A kp L f2674 s H locs → FM kp L ms_X12_goWeek f0 f2674 → lv_has ls 3 [(1, .int y2677), (0, .ref h0)] → W p l e ({ frames := 7, cells := 0, slots := 0, locals := 191 }) s m ([.ref h0] : List Value).toArray below meth c H locs 0 0 (MQ below (QT (po_X12_goWeek kp L f0 h0) G cI cJ cZ cD cR cT A kp L) ([.ref h0] : List Value).toArray s 0 0 A) (F0 m 86 ls []) := by
      intro n
      induction n with
      | zero =>
        intro f2674 y2677 m2675 m2676 b2678 z2679 hm H locs ls hW hF hl
        have hz := i32_b y2677
        exfalso; omega
      | succ n ih =>
        intro f2674 y2677 m2675 m2676 b2678 z2679 hm H locs ls hW hF hl
        have ih86 := ih
        refine lv_iload_n hx hb dX12_goWeek_86 rfl (lv_at hl 0 rfl) ?_
        refine lv_aload_n hx hb dX12_goWeek_87 rfl (lv_at hl 1 rfl) ?_
        refine fg_RX12_8 E hW rh0 dX12_goWeek_88 (fun a2681 m2682 r2683 => ?_)
        obtain rfl : pR = a2681 := (m2675).symm.trans m2682
        refine lv_iconst (v := 4) hx hb dX12_goWeek_91 (by decide) ?_
        refine gl_822 E hW rR (by decide) dX12_goWeek_92 (fun y2684 m2685 b2686 => ?_)
        have b2687 := rr_4 (show RowInv _ from b2686) m2685 (by decide)
        refine q_icmp_ge (tgt := 132) hx hb dX12_goWeek_93 (by decide) rfl rfl (fun c2729 => ?_) (fun c2729 => ?_)
        · refine lv_iconst (v := 0) hx hb dX12_goWeek_132 (by decide) ?_
          refine lv_istore_n (lv' := [(1, .int 0), (0, .ref h0)]) hx hb dX12_goWeek_133 rfl hl (by decide) rfl (fun ls hl => ?_)
          have L5549 : ∀ (n : Nat), ∀ (f5542 : Nat → va_E) (y5546 : Int32) (m5543 : oR (f5542 h0) 2 = pR) (m5544 : aI (f5542 pR) (8 : Int32).toNatClampNeg = p8) (m5545 : aI (f5542 pR) (4 : Int32).toNatClampNeg = y2684) (b5547 : (0 : Int) ≤ y5546.toInt ∧ y5546.toInt ≤ 40) (z5548 : RF rw_X12_goWeek f0 f5542 h0) (hm : (41 : Int) - y5546.toInt ≤ n) (H : Heap) (locs : List Loc) (ls : Array Slot), WS G cI cJ cZ cD cR cT A kp L f5542 s H locs → FM kp L ms_X12_goWeek f0 f5542 → lv_has ls 3 [(1, .int y5546), (0, .ref h0)] → W p l e ({ frames := 7, cells := 0, slots := 0, locals := 191 }) s m ([.ref h0] : List Value).toArray below meth c H locs 0 0 (MQ below (QT (po_X12_goWeek kp L f0 h0) G cI cJ cZ cD cR cT A kp L) ([.ref h0] : List Value).toArray s 0 0 A) (F0 m 134 ls []) := by
            intro n
            induction n with
            | zero =>
              intro f5542 y5546 m5543 m5544 m5545 b5547 z5548 hm H locs ls hW hF hl
              have hz := i32_b y5546
              exfalso; omega
            | succ n ih =>
              intro f5542 y5546 m5543 m5544 m5545 b5547 z5548 hm H locs ls hW hF hl
              have ih134 := ih
              refine lv_iload_n hx hb dX12_goWeek_134 rfl (lv_at hl 0 rfl) ?_
              refine lv_aload_n hx hb dX12_goWeek_135 rfl (lv_at hl 1 rfl) ?_
              refine fg_RX12_8 E hW rh0 dX12_goWeek_136 (fun a5550 m5551 r5552 => ?_)
              obtain rfl : pR = a5550 := (m5543).symm.trans m5551
              refine lv_iconst (v := 0) hx hb dX12_goWeek_139 (by decide) ?_
              refine gl_822 E hW rR (by decide) dX12_goWeek_140 (fun y5553 m5554 b5555 => ?_)
              have b5556 := rr_0 (show RowInv _ from b5555) m5554 (by decide)
              refine q_icmp_ge (tgt := 237) hx hb dX12_goWeek_141 (by decide) rfl rfl (fun c5690 => ?_) (fun c5690 => ?_)
              · refine lv_iconst (v := 0) hx hb dX12_goWeek_237 (by decide) ?_
                refine lv_istore_n (lv' := [(1, .int 0), (0, .ref h0)]) hx hb dX12_goWeek_238 rfl hl (by decide) rfl (fun ls hl => ?_)
                have L6307 : ∀ (n : Nat), ∀ (f6299 : Nat → va_E) (y6304 : Int32) (m6300 : oR (f6299 h0) 2 = pR) (m6301 : aI (f6299 pR) (8 : Int32).toNatClampNeg = p8) (m6302 : aI (f6299 pR) (4 : Int32).toNatClampNeg = y2684) (m6303 : aI (f6299 pR) (0 : Int32).toNatClampNeg = y5553) (b6305 : (0 : Int) ≤ y6304.toInt ∧ y6304.toInt ≤ 40) (z6306 : RF rw_X12_goWeek f0 f6299 h0) (hm : (41 : Int) - y6304.toInt ≤ n) (H : Heap) (locs : List Loc) (ls : Array Slot), WS G cI cJ cZ cD cR cT A kp L f6299 s H locs → FM kp L ms_X12_goWeek f0 f6299 → lv_has ls 3 [(1, .int y6304), (0, .ref h0)] → W p l e ({ frames := 7, cells := 0, slots := 0, locals := 191 }) s m ([.ref h0] : List Value).toArray below meth c H locs 0 0 (MQ below (QT (po_X12_goWeek kp L f0 h0) G cI cJ cZ cD cR cT A kp L) ([.ref h0] : List Value).toArray s 0 0 A) (F0 m 239 ls []) := by
                  intro n
                  induction n with
                  | zero =>
                    intro f6299 y6304 m6300 m6301 m6302 m6303 b6305 z6306 hm H locs ls hW hF hl
                    have hz := i32_b y6304
                    exfalso; omega
                  | succ n ih =>
                    intro f6299 y6304 m6300 m6301 m6302 m6303 b6305 z6306 hm H locs ls hW hF hl
                    have ih239 := ih
                    refine lv_iload_n hx hb dX12_goWeek_239 rfl (lv_at hl 0 rfl) ?_
                    refine lv_aload_n hx hb dX12_goWeek_240 rfl (lv_at hl 1 rfl) ?_
                    refine fg_RX12_8 E hW rh0 dX12_goWeek_241 (fun a6308 m6309 r6310 => ?_)
                    obtain rfl : pR = a6308 := (m6300).symm.trans m6309
                    refine lv_iconst (v := 0) hx hb dX12_goWeek_244 (by decide) ?_
                    refine gl_822 E hW rR (by decide) dX12_goWeek_245 (fun y6311 m6312 b6313 => ?_)
                    obtain rfl : y5553 = y6311 := (m6303).symm.trans m6312
                    refine q_icmp_ge (tgt := 268) hx hb dX12_goWeek_246 (by decide) rfl rfl (fun c6331 => ?_) (fun c6331 => ?_)
                    · refine lv_iconst (v := 0) hx hb dX12_goWeek_268 (by decide) ?_
                      refine lv_istore_n (lv' := [(1, .int 0), (0, .ref h0)]) hx hb dX12_goWeek_269 rfl hl (by decide) rfl (fun ls hl => ?_)
                      have L7176 : ∀ (n : Nat), ∀ (f7168 : Nat → va_E) (y7173 : Int32) (m7169 : oR (f7168 h0) 2 = pR) (m7170 : aI (f7168 pR) (8 : Int32).toNatClampNeg = p8) (m7171 : aI (f7168 pR) (4 : Int32).toNatClampNeg = y2684) (m7172 : aI (f7168 pR) (0 : Int32).toNatClampNeg = y5553) (b7174 : (0 : Int) ≤ y7173.toInt ∧ y7173.toInt ≤ 40) (z7175 : RF rw_X12_goWeek f0 f7168 h0) (hm : (41 : Int) - y7173.toInt ≤ n) (H : Heap) (locs : List Loc) (ls : Array Slot), WS G cI cJ cZ cD cR cT A kp L f7168 s H locs → FM kp L ms_X12_goWeek f0 f7168 → lv_has ls 3 [(1, .int y7173), (0, .ref h0)] → W p l e ({ frames := 7, cells := 0, slots := 0, locals := 191 }) s m ([.ref h0] : List Value).toArray below meth c H locs 0 0 (MQ below (QT (po_X12_goWeek kp L f0 h0) G cI cJ cZ cD cR cT A kp L) ([.ref h0] : List Value).toArray s 0 0 A) (F0 m 270 ls []) := by
                        intro n
                        induction n with
                        | zero =>
                          intro f7168 y7173 m7169 m7170 m7171 m7172 b7174 z7175 hm H locs ls hW hF hl
                          have hz := i32_b y7173
                          exfalso; omega
                        | succ n ih =>
                          intro f7168 y7173 m7169 m7170 m7171 m7172 b7174 z7175 hm H locs ls hW hF hl
                          have ih270 := ih
                          refine lv_iload_n hx hb dX12_goWeek_270 rfl (lv_at hl 0 rfl) ?_
                          refine lv_aload_n hx hb dX12_goWeek_271 rfl (lv_at hl 1 rfl) ?_
                          refine fg_RX12_8 E hW rh0 dX12_goWeek_272 (fun a7177 m7178 r7179 => ?_)
                          obtain rfl : pR = a7177 := (m7169).symm.trans m7178
                          refine lv_iconst (v := 0) hx hb dX12_goWeek_275 (by decide) ?_
                          refine gl_822 E hW rR (by decide) dX12_goWeek_276 (fun y7180 m7181 b7182 => ?_)
                          obtain rfl : y5553 = y7180 := (m7172).symm.trans m7181
                          refine q_icmp_ge (tgt := 312) hx hb dX12_goWeek_277 (by decide) rfl rfl (fun c7212 => ?_) (fun c7212 => ?_)
                          · refine lv_aload_n hx hb dX12_goWeek_312 rfl (lv_at hl 1 rfl) ?_
                            refine fg_RX12_8 E hW rh0 dX12_goWeek_313 (fun a7213 m7214 r7215 => ?_)
                            obtain rfl : pR = a7213 := (m7178).symm.trans m7214
                            refine lv_bipush (v := 8) hx hb dX12_goWeek_316 (by decide) ?_
                            refine lv_dup2_11 hx hb dX12_goWeek_318 rfl rfl ?_
                            refine gl_822 E hW rR (by decide) dX12_goWeek_319 (fun y7216 m7217 b7218 => ?_)
                            obtain rfl : p8 = y7216 := (m7170).symm.trans m7217
                            refine lv_iconst (v := 1) hx hb dX12_goWeek_320 (by decide) ?_
                            refine q_iadd (Y := 1) hx hb dX12_goWeek_321 rfl rfl (by omega) (fun x7219 h7220 => ?_)
                            have hk7221 : (8 : Int32).toInt = 8 := rfl
                            refine gs_822 E hW rR (by decide) (fun hc => rr_up hc (by omega) (by omega) (by unfold rbI; omega)) dX12_goWeek_322 (fun f7222 H locs e7223 n7224 g7225 hW => ?_)
                            have z7226 : RF rw_X12_goWeek f0 f7222 h0 := rf_st (lo := 8) (hi := 8) z7175 mR e7223 (by decide) rfl
                            have hF := FM.tr hF g7225 rfl
                            exact e_V E hW rfl ⟨rfl, hF, (by rw [mR, (show aI (f7222 pR) (8 : Int32).toNatClampNeg = x7219 from by rw [e7223]; exact up_s), mp8]; omega), z7226⟩ dX12_goWeek_323
                          · refine lv_aload_n hx hb dX12_goWeek_280 rfl (lv_at hl 1 rfl) ?_
                            refine fg_RX12_8 E hW rh0 dX12_goWeek_281 (fun a7227 m7228 r7229 => ?_)
                            obtain rfl : pR = a7227 := (m7178).symm.trans m7228
                            refine lv_iload_n hx hb dX12_goWeek_284 rfl (lv_at hl 0 rfl) ?_
                            refine t_callS (As := [.int y7173]) (rest := [.ref pR]) E hW (c_X12_personAt l G cI cJ cZ cD cR cT kp L f7168 hW.2.2.2 _ y7173 (by omega)) wk_X12_personAt tw_1572 rfl ⟨Nat.le_of_ble_eq_true rfl, Nat.le_of_ble_eq_true rfl⟩ ⟨rfl, rfl⟩ hl.1 rfl (Nat.le_of_ble_eq_true rfl) dX12_goWeek_285 ⟨Nat.le_of_ble_eq_true rfl, Nat.le_of_ble_eq_true rfl⟩ (fun v7230 f7231 H locs q7232 hW => ?_)
                            obtain ⟨⟨x7234, rfl, p7235⟩, g7233⟩ := q7232
                            have z7236 : RF rw_X12_goWeek f0 f7231 h0 := rf_fm hTH z7175 g7233 rh0 rfl
                            have hF := FM.tr hF g7233 rfl
                            refine lv_bipush (v := 6) hx hb dX12_goWeek_288 (by decide) ?_
                            refine q_iadd (Y := 6) hx hb dX12_goWeek_290 rfl rfl (by omega) (fun x7237 h7238 => ?_)
                            refine lv_aload_n hx hb dX12_goWeek_291 rfl (lv_at hl 1 rfl) ?_
                            refine fg_RX12_67 E hW rh0 dX12_goWeek_292 (fun a7239 m7240 r7241 => ?_)
                            refine lv_iload_n hx hb dX12_goWeek_295 rfl (lv_at hl 0 rfl) ?_
                            refine gl_859 E hW r7241 ⟨by omega, by omega⟩ dX12_goWeek_296 (fun y7242 m7243 b7244 => ?_)
                            have J7247 : ∀ (y7245 : Int32) (b7246 : (0 : Int) ≤ y7245.toInt ∧ y7245.toInt ≤ 1) (H : Heap) (locs : List Loc) (ls : Array Slot), WS G cI cJ cZ cD cR cT A kp L f7231 s H locs → FM kp L ms_X12_goWeek f0 f7231 → lv_has ls 3 [(1, .int y7173), (0, .ref h0)] → W p l e ({ frames := 7, cells := 0, slots := 0, locals := 191 }) s m ([.ref h0] : List Value).toArray below meth c H locs 0 0 (MQ below (QT (po_X12_goWeek kp L f0 h0) G cI cJ cZ cD cR cT A kp L) ([.ref h0] : List Value).toArray s 0 0 A) (F0 m 305 ls [.int y7245, .int x7237, .ref pR]) := by
                              intro y7245 b7246 H locs ls hW hF hl
                              refine gs_822 E hW rR ⟨by omega, by omega⟩ (fun hc => rr_up hc (by omega) (by omega) (by unfold rbI; omega)) dX12_goWeek_305 (fun f7248 H locs e7249 n7250 g7251 hW => ?_)
                              have z7252 : RF rw_X12_goWeek f0 f7248 h0 := rf_st (lo := 26) (hi := 338) z7236 mR e7249 (by omega) rfl
                              have hF := FM.tr hF g7251 rfl
                              refine q_iinc hx hb dX12_goWeek_306 hl (k := 0) rfl rfl rfl (by omega) (by decide) (fun i7253 ls h7254 hl => ?_)
                              have hl : lv_has ls 3 [(1, .int i7253), (0, .ref h0)] := hl
                              refine lv_goto (tgt := 270) hx hb dX12_goWeek_309 (by decide) ?_
                              exact ih270 f7248 i7253 ((fm_R g7251 rh0 rfl).trans ((fm_R g7233 rh0 rfl).trans m7228)) (show aI (f7248 pR) (8 : Int32).toNatClampNeg = p8 from by rw [e7249, up_n (tn_ne (by omega) (by decide) (by have hk0 : (8 : Int32).toInt = 8 := rfl; omega))]; exact ((congrArg (fun z => aI z (8 : Int32).toNatClampNeg) (fm_A g7233 rR (by decide) rfl)).trans m7170)) (show aI (f7248 pR) (4 : Int32).toNatClampNeg = y2684 from by rw [e7249, up_n (tn_ne (by omega) (by decide) (by have hk0 : (4 : Int32).toInt = 4 := rfl; omega))]; exact ((congrArg (fun z => aI z (4 : Int32).toNatClampNeg) (fm_A g7233 rR (by decide) rfl)).trans m7171)) (show aI (f7248 pR) (0 : Int32).toNatClampNeg = y5553 from by rw [e7249, up_n (tn_ne (by omega) (by decide) (by have hk0 : (0 : Int32).toInt = 0 := rfl; omega))]; exact ((congrArg (fun z => aI z (0 : Int32).toNatClampNeg) (fm_A g7233 rR (by decide) rfl)).trans m7181)) (by omega) z7252 (by omega) _ _ _ hW hF (lv_sub hl [0, 1] rfl)
                            refine q_if_eq (tgt := 304) hx hb dX12_goWeek_297 (by decide) rfl (fun c7255 => ?_) (fun c7255 => ?_)
                            · refine lv_iconst (v := 0) hx hb dX12_goWeek_304 (by decide) ?_
                              exact J7247 0 (by decide) _ _ _ hW hF (lv_sub hl [0, 1] rfl)
                            · refine lv_iconst (v := 1) hx hb dX12_goWeek_300 (by decide) ?_
                              refine lv_goto (tgt := 305) hx hb dX12_goWeek_301 (by decide) ?_
                              exact J7247 1 (by decide) _ _ _ hW hF (lv_sub hl [0, 1] rfl)
                      have hk7256 : (0 : Int32).toInt = 0 := rfl
                      exact L7176 41 f6299 0 m6309 m6301 m6302 m6312 (by decide) z6306 (by omega) _ _ _ hW hF (lv_sub hl [0, 1] rfl)
                    · refine lv_aload_n hx hb dX12_goWeek_249 rfl (lv_at hl 1 rfl) ?_
                      refine fg_RX12_67 E hW rh0 dX12_goWeek_250 (fun a7257 m7258 r7259 => ?_)
                      refine lv_iload_n hx hb dX12_goWeek_253 rfl (lv_at hl 0 rfl) ?_
                      refine lv_aload_n hx hb dX12_goWeek_254 rfl (lv_at hl 1 rfl) ?_
                      refine lv_iconst (v := 5) hx hb dX12_goWeek_255 (by decide) ?_
                      refine lv_iload_n hx hb dX12_goWeek_256 rfl (lv_at hl 0 rfl) ?_
                      refine lv_iconst (v := (-1)) hx hb dX12_goWeek_257 (by decide) ?_
                      refine t_callV (As := [.int 5, .int y6304, .int (-1)]) (rest := [.int y6304, .ref a7257]) E hW (c_X12_find l G cI cJ cZ cD cR cT kp L f6299 hW.2.2.2 _ h0 5 y6304 (-1) rh0 (by decide) (by omega) (by decide) (by rw [m6309]; exact (tx_rf hTX z6306 mR rfl rfl))) rh0 (by decide) rfl wk_X12_find tw_1669 rfl ⟨Nat.le_of_ble_eq_true rfl, Nat.le_of_ble_eq_true rfl⟩ ⟨rfl, rfl⟩ hl.1 rfl (Nat.le_of_ble_eq_true rfl) dX12_goWeek_258 ⟨Nat.le_of_ble_eq_true rfl, Nat.le_of_ble_eq_true rfl⟩ (fun v7260 f7261 H locs q7262 hW => ?_)
                      obtain ⟨⟨x7264, rfl, p7265⟩, g7263⟩ := q7262
                      have p7265 : (0 : Int) ≤ x7264.toInt ∧ x7264.toInt ≤ 1 := p7265
                      have z7266 : RF rw_X12_goWeek f0 f7261 h0 := rf_fm hTH z6306 g7263 rh0 rfl
                      have hF := FM.tr hF g7263 rfl
                      refine gs_859 E hW r7259 ⟨by omega, by omega⟩ (by omega) dX12_goWeek_261 (fun f7267 H locs e7268 n7269 g7270 hW => ?_)
                      have m7271 : aI (f7267 pR) (8 : Int32).toNatClampNeg = p8 := ((congrArg (fun z => aI z (8 : Int32).toNatClampNeg) (fm_A g7270 rR (by decide) rfl)).trans ((congrArg (fun z => aI z (8 : Int32).toNatClampNeg) (fm_A g7263 rR (by decide) rfl)).trans m6301))
                      have m7272 : aI (f7267 pR) (4 : Int32).toNatClampNeg = y2684 := ((congrArg (fun z => aI z (4 : Int32).toNatClampNeg) (fm_A g7270 rR (by decide) rfl)).trans ((congrArg (fun z => aI z (4 : Int32).toNatClampNeg) (fm_A g7263 rR (by decide) rfl)).trans m6302))
                      have m7273 : aI (f7267 pR) (0 : Int32).toNatClampNeg = y5553 := ((congrArg (fun z => aI z (0 : Int32).toNatClampNeg) (fm_A g7270 rR (by decide) rfl)).trans ((congrArg (fun z => aI z (0 : Int32).toNatClampNeg) (fm_A g7263 rR (by decide) rfl)).trans m6312))
                      have z7274 : RF rw_X12_goWeek f0 f7267 h0 := rf_fm hTH z7266 g7270 rh0 rfl
                      have hF := FM.tr hF g7270 rfl
                      refine q_iinc hx hb dX12_goWeek_262 hl (k := 0) rfl rfl rfl (by omega) (by decide) (fun i7275 ls h7276 hl => ?_)
                      have hl : lv_has ls 3 [(1, .int i7275), (0, .ref h0)] := hl
                      refine lv_goto (tgt := 239) hx hb dX12_goWeek_265 (by decide) ?_
                      exact ih239 f7267 i7275 ((fm_R g7270 rh0 rfl).trans ((fm_R g7263 rh0 rfl).trans m6309)) m7271 m7272 m7273 (by omega) z7274 (by omega) _ _ _ hW hF (lv_sub hl [0, 1] rfl)
                have hk7277 : (0 : Int32).toInt = 0 := rfl
                exact L6307 41 f5542 0 m5551 m5544 m5545 m5554 (by decide) z5548 (by omega) _ _ _ hW hF (lv_sub hl [0, 1] rfl)
              · refine lv_iload_n hx hb dX12_goWeek_144 rfl (lv_at hl 0 rfl) ?_
                refine t_callS (As := [.int y5546]) (rest := []) E hW (c_X12_personAt l G cI cJ cZ cD cR cT kp L f5542 hW.2.2.2 _ y5546 (by omega)) wk_X12_personAt tw_1572 rfl ⟨Nat.le_of_ble_eq_true rfl, Nat.le_of_ble_eq_true rfl⟩ ⟨rfl, rfl⟩ hl.1 rfl (Nat.le_of_ble_eq_true rfl) dX12_goWeek_145 ⟨Nat.le_of_ble_eq_true rfl, Nat.le_of_ble_eq_true rfl⟩ (fun v7278 f7279 H locs q7280 hW => ?_)
                obtain ⟨⟨x7282, rfl, p7283⟩, g7281⟩ := q7280
                have z7284 : RF rw_X12_goWeek f0 f7279 h0 := rf_fm hTH z5548 g7281 rh0 rfl
                have hF := FM.tr hF g7281 rfl
                refine lv_istore_n (lv' := [(2, .int x7282), (1, .int y5546), (0, .ref h0)]) hx hb dX12_goWeek_148 rfl hl (by decide) rfl (fun ls hl => ?_)
                refine lv_aload_n hx hb dX12_goWeek_149 rfl (lv_at hl 2 rfl) ?_
                refine fg_RX12_8 E hW rh0 dX12_goWeek_150 (fun a7285 m7286 r7287 => ?_)
                obtain rfl : pR = a7285 := (((fm_R g7281 rh0 rfl).trans m5551)).symm.trans m7286
                refine lv_iload_n hx hb dX12_goWeek_153 rfl (lv_at hl 0 rfl) ?_
                refine lv_bipush (v := 7) hx hb dX12_goWeek_154 (by decide) ?_
                refine q_iadd (Y := 7) hx hb dX12_goWeek_156 rfl rfl (by omega) (fun x7288 h7289 => ?_)
                refine gl_822 E hW rR ⟨by omega, by omega⟩ dX12_goWeek_157 (fun y7290 m7291 b7292 => ?_)
                refine lv_iconst (v := (-1)) hx hb dX12_goWeek_158 (by decide) ?_
                have J7353 : ∀ (f7347 : Nat → va_E) (m7348 : oR (f7347 h0) 2 = pR) (m7349 : aI (f7347 pR) (8 : Int32).toNatClampNeg = p8) (m7350 : aI (f7347 pR) (4 : Int32).toNatClampNeg = y2684) (m7351 : aI (f7347 pR) (0 : Int32).toNatClampNeg = y5553) (z7352 : RF rw_X12_goWeek f0 f7347 h0) (H : Heap) (locs : List Loc) (ls : Array Slot), WS G cI cJ cZ cD cR cT A kp L f7347 s H locs → FM kp L ms_X12_goWeek f0 f7347 → lv_has ls 3 [(2, .int x7282), (1, .int y5546), (0, .ref h0)] → W p l e ({ frames := 7, cells := 0, slots := 0, locals := 191 }) s m ([.ref h0] : List Value).toArray below meth c H locs 0 0 (MQ below (QT (po_X12_goWeek kp L f0 h0) G cI cJ cZ cD cR cT A kp L) ([.ref h0] : List Value).toArray s 0 0 A) (F0 m 231 ls []) := by
                  intro f7347 m7348 m7349 m7350 m7351 z7352 H locs ls hW hF hl
                  refine q_iinc hx hb dX12_goWeek_231 hl (k := 1) rfl rfl rfl (by omega) (by decide) (fun i7354 ls h7355 hl => ?_)
                  have hl : lv_has ls 3 [(1, .int i7354), (2, .int x7282), (0, .ref h0)] := hl
                  refine lv_goto (tgt := 134) hx hb dX12_goWeek_234 (by decide) ?_
                  exact ih134 f7347 i7354 m7348 m7349 m7350 (by omega) z7352 (by omega) _ _ _ hW hF (lv_sub hl [0, 2] rfl)
                refine q_icmp_eq (Y := -1) (tgt := 231) hx hb dX12_goWeek_159 (by decide) rfl rfl (fun c7356 => ?_) (fun c7356 => ?_)
                · exact J7353 f7279 m7286 ((congrArg (fun z => aI z (8 : Int32).toNatClampNeg) (fm_A g7281 rR (by decide) rfl)).trans m5544) ((congrArg (fun z => aI z (4 : Int32).toNatClampNeg) (fm_A g7281 rR (by decide) rfl)).trans m5545) ((congrArg (fun z => aI z (0 : Int32).toNatClampNeg) (fm_A g7281 rR (by decide) rfl)).trans m5554) z7284 _ _ _ hW hF (lv_sub hl [0, 1, 2] rfl)
                · refine lv_aload_n hx hb dX12_goWeek_162 rfl (lv_at hl 2 rfl) ?_
                  refine fg_RX12_8 E hW rh0 dX12_goWeek_163 (fun a7357 m7358 r7359 => ?_)
                  obtain rfl : pR = a7357 := (m7286).symm.trans m7358
                  refine lv_iload_n hx hb dX12_goWeek_166 rfl (lv_at hl 0 rfl) ?_
                  refine lv_iconst (v := 5) hx hb dX12_goWeek_167 (by decide) ?_
                  refine q_iadd (Y := 5) hx hb dX12_goWeek_168 rfl rfl (by omega) (fun x7360 h7361 => ?_)
                  refine gl_822 E hW rR ⟨by omega, by omega⟩ dX12_goWeek_169 (fun y7362 m7363 b7364 => ?_)
                  refine lv_iconst (v := 1) hx hb dX12_goWeek_170 (by decide) ?_
                  refine q_icmp_ne (Y := 1) (tgt := 231) hx hb dX12_goWeek_171 (by decide) rfl rfl (fun c7365 => ?_) (fun c7365 => ?_)
                  · exact J7353 f7279 m7358 ((congrArg (fun z => aI z (8 : Int32).toNatClampNeg) (fm_A g7281 rR (by decide) rfl)).trans m5544) ((congrArg (fun z => aI z (4 : Int32).toNatClampNeg) (fm_A g7281 rR (by decide) rfl)).trans m5545) ((congrArg (fun z => aI z (0 : Int32).toNatClampNeg) (fm_A g7281 rR (by decide) rfl)).trans m5554) z7284 _ _ _ hW hF (lv_sub hl [0, 1, 2] rfl)
                  · refine lv_aload_n hx hb dX12_goWeek_174 rfl (lv_at hl 2 rfl) ?_
                    refine lv_iconst (v := 3) hx hb dX12_goWeek_175 (by decide) ?_
                    refine lv_iload_n hx hb dX12_goWeek_176 rfl (lv_at hl 1 rfl) ?_
                    refine lv_iconst (v := (-1)) hx hb dX12_goWeek_177 (by decide) ?_
                    refine t_callV (As := [.int 3, .int y5546, .int (-1)]) (rest := []) E hW (c_X12_find l G cI cJ cZ cD cR cT kp L f7279 hW.2.2.2 _ h0 3 y5546 (-1) rh0 (by decide) (by omega) (by decide) (by rw [m7358]; exact (tx_rf hTX z7284 mR rfl rfl))) rh0 (by decide) rfl wk_X12_find tw_1669 rfl ⟨Nat.le_of_ble_eq_true rfl, Nat.le_of_ble_eq_true rfl⟩ ⟨rfl, rfl⟩ hl.1 rfl (Nat.le_of_ble_eq_true rfl) dX12_goWeek_178 ⟨Nat.le_of_ble_eq_true rfl, Nat.le_of_ble_eq_true rfl⟩ (fun v7366 f7367 H locs q7368 hW => ?_)
                    obtain ⟨⟨x7370, rfl, p7371⟩, g7369⟩ := q7368
                    have p7371 : (0 : Int) ≤ x7370.toInt ∧ x7370.toInt ≤ 1 := p7371
                    have m7372 : aI (f7367 pR) (8 : Int32).toNatClampNeg = p8 := ((congrArg (fun z => aI z (8 : Int32).toNatClampNeg) (fm_A g7369 rR (by decide) rfl)).trans ((congrArg (fun z => aI z (8 : Int32).toNatClampNeg) (fm_A g7281 rR (by decide) rfl)).trans m5544))
                    have m7373 : aI (f7367 pR) (4 : Int32).toNatClampNeg = y2684 := ((congrArg (fun z => aI z (4 : Int32).toNatClampNeg) (fm_A g7369 rR (by decide) rfl)).trans ((congrArg (fun z => aI z (4 : Int32).toNatClampNeg) (fm_A g7281 rR (by decide) rfl)).trans m5545))
                    have m7374 : aI (f7367 pR) (0 : Int32).toNatClampNeg = y5553 := ((congrArg (fun z => aI z (0 : Int32).toNatClampNeg) (fm_A g7369 rR (by decide) rfl)).trans ((congrArg (fun z => aI z (0 : Int32).toNatClampNeg) (fm_A g7281 rR (by decide) rfl)).trans m5554))
                    have z7375 : RF rw_X12_goWeek f0 f7367 h0 := rf_fm hTH z7284 g7369 rh0 rfl
                    have hF := FM.tr hF g7369 rfl
                    refine lv_pop hx hb dX12_goWeek_181 rfl ?_
                    refine lv_aload_n hx hb dX12_goWeek_182 rfl (lv_at hl 2 rfl) ?_
                    refine fg_RX12_430 E hW rh0 dX12_goWeek_183 (fun y7376 m7377 => ?_)
                    refine lv_lconst (v := 0) hx hb dX12_goWeek_186 (by decide) ?_
                    refine q_lcmp_le (Y := 0) (tgt := 231) hx hb dX12_goWeek_187 dX12_goWeek_188 (by decide) rfl rfl (fun c7378 => ?_) (fun c7378 => ?_)
                    · exact J7353 f7367 ((fm_R g7369 rh0 rfl).trans m7358) m7372 m7373 m7374 z7375 _ _ _ hW hF (lv_sub hl [0, 1, 2] rfl)
                    · refine lv_aload_n hx hb dX12_goWeek_191 rfl (lv_at hl 2 rfl) ?_
                      refine fg_RX12_430 E hW rh0 dX12_goWeek_192 (fun y7379 m7380 => ?_)
                      refine lv_aload_n hx hb dX12_goWeek_195 rfl (lv_at hl 2 rfl) ?_
                      refine fg_RX12_8 E hW rh0 dX12_goWeek_196 (fun a7381 m7382 r7383 => ?_)
                      obtain rfl : pR = a7381 := (((fm_R g7369 rh0 rfl).trans m7358)).symm.trans m7382
                      refine lv_bipush (v := 9) hx hb dX12_goWeek_199 (by decide) ?_
                      refine gl_822 E hW rR (by decide) dX12_goWeek_201 (fun y7384 m7385 b7386 => ?_)
                      refine q_i2l hx hb dX12_goWeek_202 rfl (fun x7387 h7388 => ?_)
                      have hb7389 : -2147483648 ≤ x7387.toInt ∧ x7387.toInt ≤ 2147483647 := by have := i32_b y7384; omega
                      refine q_lcmp_gt (tgt := 231) hx hb dX12_goWeek_203 dX12_goWeek_204 (by decide) rfl rfl (fun c7390 => ?_) (fun c7390 => ?_)
                      · exact J7353 f7367 m7382 m7372 m7373 m7374 z7375 _ _ _ hW hF (lv_sub hl [0, 1, 2] rfl)
                      · refine lv_aload_n hx hb dX12_goWeek_207 rfl (lv_at hl 2 rfl) ?_
                        refine fg_RX12_8 E hW rh0 dX12_goWeek_208 (fun a7391 m7392 r7393 => ?_)
                        obtain rfl : pR = a7391 := (m7382).symm.trans m7392
                        refine lv_bipush (v := 9) hx hb dX12_goWeek_211 (by decide) ?_
                        refine lv_dup2_11 hx hb dX12_goWeek_213 rfl rfl ?_
                        refine gl_822 E hW rR (by decide) dX12_goWeek_214 (fun y7394 m7395 b7396 => ?_)
                        obtain rfl : y7384 = y7394 := (m7385).symm.trans m7395
                        refine lv_aload_n hx hb dX12_goWeek_215 rfl (lv_at hl 2 rfl) ?_
                        refine fg_RX12_430 E hW rh0 dX12_goWeek_216 (fun y7397 m7398 => ?_)
                        refine u_l2i hx hb dX12_goWeek_219 (fun x7399 => ?_)
                        refine u_isub hx hb dX12_goWeek_220 (fun x7400 => ?_)
                        have hk7401 : (9 : Int32).toInt = 9 := rfl
                        refine gs_822 E hW rR (by decide) (fun hc => rr_up hc (by omega) (by omega) (by unfold rbI; omega)) dX12_goWeek_221 (fun f7402 H locs e7403 n7404 g7405 hW => ?_)
                        have z7406 : RF rw_X12_goWeek f0 f7402 h0 := rf_st (lo := 9) (hi := 9) z7375 mR e7403 (by decide) rfl
                        have hF := FM.tr hF g7405 rfl
                        refine lv_aload_n hx hb dX12_goWeek_222 rfl (lv_at hl 2 rfl) ?_
                        refine lv_iload_n hx hb dX12_goWeek_223 rfl (lv_at hl 1 rfl) ?_
                        refine lv_aload_n hx hb dX12_goWeek_224 rfl (lv_at hl 2 rfl) ?_
                        refine fg_RX12_430 E hW rh0 dX12_goWeek_225 (fun y7407 m7408 => ?_)
                        refine t_callV (As := [.int y5546, .long y7407]) (rest := []) E hW (c_X12_gets l G cI cJ cZ cD cR cT kp L f7402 hW.2.2.2 _ h0 y5546 y7407 rh0 (by omega)) rh0 (by decide) rfl wk_X12_gets tw_1596 rfl ⟨Nat.le_of_ble_eq_true rfl, Nat.le_of_ble_eq_true rfl⟩ ⟨rfl, rfl⟩ hl.1 rfl (Nat.le_of_ble_eq_true rfl) dX12_goWeek_228 ⟨Nat.le_of_ble_eq_true rfl, Nat.le_of_ble_eq_true rfl⟩ (fun v7409 f7410 H locs q7411 hW => ?_)
                        obtain ⟨rfl, g7412, h7413⟩ := q7411
                        have z7414 : RF rw_X12_goWeek f0 f7410 h0 := rf_call z7406 h7413 mR ((fm_R g7405 rh0 rfl).trans m7392) rfl
                        have hF := FM.tr hF g7412 rfl
                        exact J7353 f7410 ((fm_R g7412 rh0 rfl).trans ((fm_R g7405 rh0 rfl).trans m7392)) ((show aI (f7410 pR) (8 : Int32).toNatClampNeg = aI (f7402 pR) (8 : Int32).toNatClampNeg from rf_get h7413 ((fm_R g7405 rh0 rfl).trans m7392) 8 rfl).trans (show aI (f7402 pR) (8 : Int32).toNatClampNeg = p8 from by rw [e7403, up_n (tn_ne (by decide) (by decide) (by decide))]; exact m7372)) ((show aI (f7410 pR) (4 : Int32).toNatClampNeg = aI (f7402 pR) (4 : Int32).toNatClampNeg from rf_get h7413 ((fm_R g7405 rh0 rfl).trans m7392) 4 rfl).trans (show aI (f7402 pR) (4 : Int32).toNatClampNeg = y2684 from by rw [e7403, up_n (tn_ne (by decide) (by decide) (by decide))]; exact m7373)) ((show aI (f7410 pR) (0 : Int32).toNatClampNeg = aI (f7402 pR) (0 : Int32).toNatClampNeg from rf_get h7413 ((fm_R g7405 rh0 rfl).trans m7392) 0 rfl).trans (show aI (f7402 pR) (0 : Int32).toNatClampNeg = y5553 from by rw [e7403, up_n (tn_ne (by decide) (by decide) (by decide))]; exact m7374)) z7414 _ _ _ hW hF (lv_sub hl [0, 1, 2] rfl)
          have hk7415 : (0 : Int32).toInt = 0 := rfl
          exact L5549 41 f2674 0 m2682 m2676 m2685 (by decide) z2679 (by omega) _ _ _ hW hF (lv_sub hl [0, 1] rfl)
        · refine lv_aload_n hx hb dX12_goWeek_96 rfl (lv_at hl 1 rfl) ?_
          refine fg_RX12_8 E hW rh0 dX12_goWeek_97 (fun a7416 m7417 r7418 => ?_)
          obtain rfl : pR = a7416 := (m2682).symm.trans m7417
          refine lv_sipush (v := 684) hx hb dX12_goWeek_100 (by decide) ?_
          refine lv_bipush (v := 6) hx hb dX12_goWeek_103 (by decide) ?_
          refine lv_iload_n hx hb dX12_goWeek_105 rfl (lv_at hl 0 rfl) ?_
          refine q_imul (X := 6) hx hb dX12_goWeek_106 rfl rfl (by omega) (fun x7419 h7420 => ?_)
          refine q_iadd (X := 684) hx hb dX12_goWeek_107 rfl rfl (by omega) (fun x7421 h7422 => ?_)
          refine lv_iconst (v := 5) hx hb dX12_goWeek_108 (by decide) ?_
          refine q_iadd (Y := 5) hx hb dX12_goWeek_109 rfl rfl (by omega) (fun x7423 h7424 => ?_)
          refine gl_822 E hW rR ⟨by omega, by omega⟩ dX12_goWeek_110 (fun y7425 m7426 b7427 => ?_)
          have J7443 : ∀ (f7438 : Nat → va_E) (m7439 : oR (f7438 h0) 2 = pR) (m7440 : aI (f7438 pR) (8 : Int32).toNatClampNeg = p8) (m7441 : aI (f7438 pR) (4 : Int32).toNatClampNeg = y2684) (z7442 : RF rw_X12_goWeek f0 f7438 h0) (H : Heap) (locs : List Loc) (ls : Array Slot), WS G cI cJ cZ cD cR cT A kp L f7438 s H locs → FM kp L ms_X12_goWeek f0 f7438 → lv_has ls 3 [(1, .int y2677), (0, .ref h0)] → W p l e ({ frames := 7, cells := 0, slots := 0, locals := 191 }) s m ([.ref h0] : List Value).toArray below meth c H locs 0 0 (MQ below (QT (po_X12_goWeek kp L f0 h0) G cI cJ cZ cD cR cT A kp L) ([.ref h0] : List Value).toArray s 0 0 A) (F0 m 126 ls []) := by
            intro f7438 m7439 m7440 m7441 z7442 H locs ls hW hF hl
            clear h7424
            refine q_iinc hx hb dX12_goWeek_126 hl (k := 0) rfl rfl rfl (by omega) (by decide) (fun i7444 ls h7445 hl => ?_)
            have hl : lv_has ls 3 [(1, .int i7444), (0, .ref h0)] := hl
            refine lv_goto (tgt := 86) hx hb dX12_goWeek_129 (by decide) ?_
            exact ih86 f7438 i7444 m7439 m7440 (by omega) z7442 (by omega) _ _ _ hW hF (lv_sub hl [0, 1] rfl)
          refine q_if_ne (tgt := 126) hx hb dX12_goWeek_111 (by decide) rfl (fun c7446 => ?_) (fun c7446 => ?_)
          · exact J7443 f2674 m7417 m2676 m2685 z2679 _ _ _ hW hF (lv_sub hl [0, 1] rfl)
          · refine lv_aload_n hx hb dX12_goWeek_114 rfl (lv_at hl 1 rfl) ?_
            refine lv_sipush (v := 684) hx hb dX12_goWeek_115 (by decide) ?_
            refine lv_bipush (v := 6) hx hb dX12_goWeek_118 (by decide) ?_
            refine lv_iload_n hx hb dX12_goWeek_120 rfl (lv_at hl 0 rfl) ?_
            refine q_imul (X := 6) hx hb dX12_goWeek_121 rfl rfl (by omega) (fun x7447 h7448 => ?_)
            refine q_iadd (X := 684) hx hb dX12_goWeek_122 rfl rfl (by omega) (fun x7449 h7450 => ?_)
            refine t_callV (As := [.int x7449]) (rest := []) E hW (c_X12_goWrit l G cI cJ cZ cD cR cT kp L f2674 hW.2.2.2 _ h0 x7449 rh0 (by omega) (by omega) (by rw [m7417]; exact (tx_rf hTX z2679 mR rfl rfl))) rh0 (by decide) rfl wk_X12_goWrit tw_1942 rfl ⟨Nat.le_of_ble_eq_true rfl, Nat.le_of_ble_eq_true rfl⟩ ⟨rfl, rfl⟩ hl.1 rfl (Nat.le_of_ble_eq_true rfl) dX12_goWeek_123 ⟨Nat.le_of_ble_eq_true rfl, Nat.le_of_ble_eq_true rfl⟩ (fun v7451 f7452 H locs q7453 hW => ?_)
            obtain ⟨rfl, g7454, h7455⟩ := q7453
            have z7456 : RF rw_X12_goWeek f0 f7452 h0 := rf_call z2679 h7455 mR m7417 rfl
            have hF := FM.tr hF g7454 rfl
            exact J7443 f7452 ((fm_R g7454 rh0 rfl).trans m7417) ((show aI (f7452 pR) (8 : Int32).toNatClampNeg = aI (f2674 pR) (8 : Int32).toNatClampNeg from rf_get h7455 m7417 8 rfl).trans m2676) ((show aI (f7452 pR) (4 : Int32).toNatClampNeg = aI (f2674 pR) (4 : Int32).toNatClampNeg from rf_get h7455 m7417 4 rfl).trans m2685) z7456 _ _ _ hW hF (lv_sub hl [0, 1] rfl)
    have hk7457 : (0 : Int32).toInt = 0 := rfl
    exact L2680 61 f1294 0 m1295 m1296 (by decide) z1297 (by omega) _ _ _ hW hF (lv_sub hl [0, 1] rfl)
  refine q_if_ne (tgt := 84) hx hb dX12_goWeek_18 (by decide) rfl (fun c7458 => ?_) (fun c7458 => ?_)
  · exact J1298 f7 m13 m16 z11 _ _ _ hW hF (lv_sub hl [0] rfl)
  · refine lv_aload_n hx hb dX12_goWeek_21 rfl (lv_at hl 0 rfl) ?_
    refine fg_RX12_8 E hW rh0 dX12_goWeek_22 (fun a7459 m7460 r7461 => ?_)
    obtain rfl : pR = a7459 := (m13).symm.trans m7460
    refine lv_bipush (v := 8) hx hb dX12_goWeek_25 (by decide) ?_
    refine gl_822 E hW rR (by decide) dX12_goWeek_27 (fun y7462 m7463 b7464 => ?_)
    obtain rfl : p8 = y7462 := (m16).symm.trans m7463
    refine q_if_le (tgt := 84) hx hb dX12_goWeek_28 (by decide) rfl (fun c7465 => ?_) (fun c7465 => ?_)
    · exact J1298 f7 m7460 m7463 z11 _ _ _ hW hF (lv_sub hl [0] rfl)
    · refine lv_aload_n hx hb dX12_goWeek_31 rfl (lv_at hl 0 rfl) ?_
      refine t_callV (As := []) (rest := []) E hW (c_X12_payRents l G cI cJ cZ cD cR cT kp L f7 hW.2.2.2 _ h0 rh0 (by rw [m7460]; exact (tx_rf hTX z11 mR rfl rfl))) rh0 (by decide) rfl wk_X12_payRents tw_1926 rfl ⟨Nat.le_of_ble_eq_true rfl, Nat.le_of_ble_eq_true rfl⟩ ⟨rfl, rfl⟩ hl.1 rfl (Nat.le_of_ble_eq_true rfl) dX12_goWeek_32 ⟨Nat.le_of_ble_eq_true rfl, Nat.le_of_ble_eq_true rfl⟩ (fun v7466 f7467 H locs q7468 hW => ?_)
      obtain ⟨rfl, g7469, h7470⟩ := q7468
      have z7471 : RF rw_X12_goWeek f0 f7467 h0 := rf_call z11 h7470 mR m7460 rfl
      have hF := FM.tr hF g7469 rfl
      refine lv_iconst (v := 0) hx hb dX12_goWeek_35 (by decide) ?_
      refine lv_istore_n (lv' := [(1, .int 0), (0, .ref h0)]) hx hb dX12_goWeek_36 rfl hl (by decide) rfl (fun ls hl => ?_)
      have L8675 : ∀ (n : Nat), ∀ (f8669 : Nat → va_E) (y8672 : Int32) (m8670 : oR (f8669 h0) 2 = pR) (m8671 : aI (f8669 pR) (8 : Int32).toNatClampNeg = p8) (b8673 : (0 : Int) ≤ y8672.toInt ∧ y8672.toInt ≤ 40) (z8674 : RF rw_X12_goWeek f0 f8669 h0) (hm : (41 : Int) - y8672.toInt ≤ n) (H : Heap) (locs : List Loc) (ls : Array Slot), WS G cI cJ cZ cD cR cT A kp L f8669 s H locs → FM kp L ms_X12_goWeek f0 f8669 → lv_has ls 3 [(1, .int y8672), (0, .ref h0)] → W p l e ({ frames := 7, cells := 0, slots := 0, locals := 191 }) s m ([.ref h0] : List Value).toArray below meth c H locs 0 0 (MQ below (QT (po_X12_goWeek kp L f0 h0) G cI cJ cZ cD cR cT A kp L) ([.ref h0] : List Value).toArray s 0 0 A) (F0 m 37 ls []) := by
        intro n
        induction n with
        | zero =>
          intro f8669 y8672 m8670 m8671 b8673 z8674 hm H locs ls hW hF hl
          have hz := i32_b y8672
          exfalso; omega
        | succ n ih =>
          intro f8669 y8672 m8670 m8671 b8673 z8674 hm H locs ls hW hF hl
          have ih37 := ih
          refine lv_iload_n hx hb dX12_goWeek_37 rfl (lv_at hl 0 rfl) ?_
          refine lv_aload_n hx hb dX12_goWeek_38 rfl (lv_at hl 1 rfl) ?_
          refine fg_RX12_8 E hW rh0 dX12_goWeek_39 (fun a8676 m8677 r8678 => ?_)
          obtain rfl : pR = a8676 := (m8670).symm.trans m8677
          refine lv_iconst (v := 2) hx hb dX12_goWeek_42 (by decide) ?_
          refine gl_822 E hW rR (by decide) dX12_goWeek_43 (fun y8679 m8680 b8681 => ?_)
          have b8682 := rr_2 (show RowInv _ from b8681) m8680 (by decide)
          refine q_icmp_ge (tgt := 84) hx hb dX12_goWeek_44 (by decide) rfl rfl (fun c8683 => ?_) (fun c8683 => ?_)
          · exact J1298 f8669 m8677 m8671 z8674 _ _ _ hW hF (lv_sub hl [1] rfl)
          · refine lv_aload_n hx hb dX12_goWeek_47 rfl (lv_at hl 1 rfl) ?_
            refine fg_RX12_161 E hW rh0 dX12_goWeek_48 (fun y8684 m8685 b8686 => ?_)
            refine q_if_eq (tgt := 84) hx hb dX12_goWeek_51 (by decide) rfl (fun c8687 => ?_) (fun c8687 => ?_)
            · exact J1298 f8669 m8677 m8671 z8674 _ _ _ hW hF (lv_sub hl [1] rfl)
            · refine lv_aload_n hx hb dX12_goWeek_54 rfl (lv_at hl 1 rfl) ?_
              refine lv_iload_n hx hb dX12_goWeek_55 rfl (lv_at hl 0 rfl) ?_
              refine t_callV (As := [.int y8672]) (rest := []) E hW (c_X12_canWrit l G cI cJ cZ cD cR cT kp L f8669 hW.2.2.2 _ h0 y8672 rh0 (by omega)) rh0 (by decide) rfl wk_X12_canWrit tw_1930 rfl ⟨Nat.le_of_ble_eq_true rfl, Nat.le_of_ble_eq_true rfl⟩ ⟨rfl, rfl⟩ hl.1 rfl (Nat.le_of_ble_eq_true rfl) dX12_goWeek_56 ⟨Nat.le_of_ble_eq_true rfl, Nat.le_of_ble_eq_true rfl⟩ (fun v8688 f8689 H locs q8690 hW => ?_)
              obtain ⟨⟨x8692, rfl, p8693⟩, g8691⟩ := q8690
              have z8694 : RF rw_X12_goWeek f0 f8689 h0 := rf_fm hTH z8674 g8691 rh0 rfl
              have hF := FM.tr hF g8691 rfl
              have J8715 : ∀ (f8709 : Nat → va_E) (m8710 : oR (f8709 h0) 2 = pR) (m8711 : oI (f8709 h0) 6 = y8684) (m8712 : aI (f8709 pR) (8 : Int32).toNatClampNeg = p8) (m8713 : aI (f8709 pR) (2 : Int32).toNatClampNeg = y8679) (z8714 : RF rw_X12_goWeek f0 f8709 h0) (H : Heap) (locs : List Loc) (ls : Array Slot), WS G cI cJ cZ cD cR cT A kp L f8709 s H locs → FM kp L ms_X12_goWeek f0 f8709 → lv_has ls 3 [(1, .int y8672), (0, .ref h0)] → W p l e ({ frames := 7, cells := 0, slots := 0, locals := 191 }) s m ([.ref h0] : List Value).toArray below meth c H locs 0 0 (MQ below (QT (po_X12_goWeek kp L f0 h0) G cI cJ cZ cD cR cT A kp L) ([.ref h0] : List Value).toArray s 0 0 A) (F0 m 78 ls []) := by
                intro f8709 m8710 m8711 m8712 m8713 z8714 H locs ls hW hF hl
                clear p8693
                refine q_iinc hx hb dX12_goWeek_78 hl (k := 0) rfl rfl rfl (by omega) (by decide) (fun i8716 ls h8717 hl => ?_)
                have hl : lv_has ls 3 [(1, .int i8716), (0, .ref h0)] := hl
                refine lv_goto (tgt := 37) hx hb dX12_goWeek_81 (by decide) ?_
                exact ih37 f8709 i8716 m8710 m8712 (by omega) z8714 (by omega) _ _ _ hW hF (lv_sub hl [0, 1] rfl)
              refine q_if_eq (tgt := 78) hx hb dX12_goWeek_59 (by decide) rfl (fun c8718 => ?_) (fun c8718 => ?_)
              · exact J8715 f8689 ((fm_R g8691 rh0 rfl).trans m8677) ((fm_I g8691 rh0 rfl).trans m8685) ((congrArg (fun z => aI z (8 : Int32).toNatClampNeg) (fm_A g8691 rR (by decide) rfl)).trans m8671) ((congrArg (fun z => aI z (2 : Int32).toNatClampNeg) (fm_A g8691 rR (by decide) rfl)).trans m8680) z8694 _ _ _ hW hF (lv_sub hl [0, 1] rfl)
              · refine lv_aload_n hx hb dX12_goWeek_62 rfl (lv_at hl 1 rfl) ?_
                refine fg_RX12_8 E hW rh0 dX12_goWeek_63 (fun a8719 m8720 r8721 => ?_)
                obtain rfl : pR = a8719 := (((fm_R g8691 rh0 rfl).trans m8677)).symm.trans m8720
                refine lv_iconst (v := 4) hx hb dX12_goWeek_66 (by decide) ?_
                refine gl_822 E hW rR (by decide) dX12_goWeek_67 (fun y8722 m8723 b8724 => ?_)
                have b8725 := rr_4 (show RowInv _ from b8724) m8723 (by decide)
                refine lv_bipush (v := 60) hx hb dX12_goWeek_68 (by decide) ?_
                refine q_icmp_ge (Y := 60) (tgt := 78) hx hb dX12_goWeek_70 (by decide) rfl rfl (fun c8726 => ?_) (fun c8726 => ?_)
                · exact J8715 f8689 m8720 ((fm_I g8691 rh0 rfl).trans m8685) ((congrArg (fun z => aI z (8 : Int32).toNatClampNeg) (fm_A g8691 rR (by decide) rfl)).trans m8671) ((congrArg (fun z => aI z (2 : Int32).toNatClampNeg) (fm_A g8691 rR (by decide) rfl)).trans m8680) z8694 _ _ _ hW hF (lv_sub hl [0, 1] rfl)
                · refine lv_aload_n hx hb dX12_goWeek_73 rfl (lv_at hl 1 rfl) ?_
                  refine lv_iload_n hx hb dX12_goWeek_74 rfl (lv_at hl 0 rfl) ?_
                  refine t_callV (As := [.int y8672]) (rest := []) E hW (c_X12_addWrit l G cI cJ cZ cD cR cT kp L f8689 hW.2.2.2 _ h0 y8672 rh0 (by omega) (by rw [m8720, m8723]; omega) (by rw [m8720]; exact (tx_rf hTX z8694 mR rfl rfl))) rh0 (by decide) rfl wk_X12_addWrit tw_1934 rfl ⟨Nat.le_of_ble_eq_true rfl, Nat.le_of_ble_eq_true rfl⟩ ⟨rfl, rfl⟩ hl.1 rfl (Nat.le_of_ble_eq_true rfl) dX12_goWeek_75 ⟨Nat.le_of_ble_eq_true rfl, Nat.le_of_ble_eq_true rfl⟩ (fun v8727 f8728 H locs q8729 hW => ?_)
                  obtain ⟨rfl, g8730, h8731⟩ := q8729
                  have z8732 : RF rw_X12_goWeek f0 f8728 h0 := rf_call z8694 h8731 mR m8720 rfl
                  have hF := FM.tr hF g8730 rfl
                  exact J8715 f8728 ((fm_R g8730 rh0 rfl).trans m8720) ((fm_I g8730 rh0 rfl).trans ((fm_I g8691 rh0 rfl).trans m8685)) ((show aI (f8728 pR) (8 : Int32).toNatClampNeg = aI (f8689 pR) (8 : Int32).toNatClampNeg from rf_get h8731 m8720 8 rfl).trans ((congrArg (fun z => aI z (8 : Int32).toNatClampNeg) (fm_A g8691 rR (by decide) rfl)).trans m8671)) ((show aI (f8728 pR) (2 : Int32).toNatClampNeg = aI (f8689 pR) (2 : Int32).toNatClampNeg from rf_get h8731 m8720 2 rfl).trans ((congrArg (fun z => aI z (2 : Int32).toNatClampNeg) (fm_A g8691 rR (by decide) rfl)).trans m8680)) z8732 _ _ _ hW hF (lv_sub hl [0, 1] rfl)
      have hk8733 : (0 : Int32).toInt = 0 := rfl
      exact L8675 41 f7467 0 ((fm_R g7469 rh0 rfl).trans m7460) ((show aI (f7467 pR) (8 : Int32).toNatClampNeg = aI (f7 pR) (8 : Int32).toNatClampNeg from rf_get h7470 m7460 8 rfl).trans m7463) (by decide) z7471 (by omega) _ _ _ hW hF (lv_sub hl [0, 1] rfl)
def rw_X12_go : List (Nat × Nat) := [(4, 4), (8, 9), (13, 1043)]
def ms_X12_go : List (Nat × Nat) := [(12, 0), (12, 1), (12, 33), (12, 34), (12, 35), (12, 36), (12, 37), (12, 38), (822, 0), (849, 0), (850, 0), (851, 0), (852, 0), (859, 0)]
def po_X12_go (kp : Nat → Nat) (L : List Nat) (f0 : Nat → va_E) (h0 : Nat) (u1 : Int32) : Option Value → (Nat → va_E) → Prop := fun v f => (∃ r : Int32, v = some (.int r) ∧ (True)) ∧ FM kp L ms_X12_go f0 f ∧ (RF rw_X12_go f0 f h0)
set_option maxHeartbeats 4000000 in
set_option maxRecDepth 100000 in
theorem c_X12_go (l : Launch) (G : va_G) (cI cJ cZ cD cR cT : ClassId) (kp : Nat → Nat) (L : List Nat) (f0 : Nat → va_E) (hTH : TH cI cJ cZ cD cR cT kp L f0) (sz : Nat) (h0 : Nat) (u1 : Int32) (rh0 : RK kp L h0 12) (hTX : TX (aI (f0 (oR (f0 h0) 2)))) : Met l yX12_go (Cond.code yX12_go cX12_go 3 (some .int) :: wTab) ({ frames := 8, cells := 0, slots := 0, locals := 213 }) (va_Pc [.ref h0, .int u1] (PreW G (tys6 cI cJ cZ cD cR cT) (va_pl L f0) sz)) (QT (po_X12_go kp L f0 h0 u1) G cI cJ cZ cD cR cT (va_A (va_pl L f0) sz) kp L) 0 0 (va_A (va_pl L f0) sz) := by
  refine metT (by decide) (Nat.le_of_ble_eq_true rfl) hTH ?_
  intro p e s m below meth c A ls E hW hl
  obtain ⟨hx, hb, -, hml, hown, hts, -, -, -⟩ := id E
  have hF : FM kp L ms_X12_go f0 f0 := FM.rf
  have hl : lv_has ls 3 [(0, .ref h0), (1, .int u1)] := hl
  obtain ⟨pR, mR⟩ : ∃ x : Nat, oR (f0 h0) 2 = x := ⟨_, rfl⟩
  have rR : RK kp L pR 822 := by rw [← mR]; exact th_ref hTH rh0 (by decide) (by decide) rfl
  obtain ⟨p8, mp8⟩ : ∃ x : Int32, aI (f0 pR) (8 : Int32).toNatClampNeg = x := ⟨_, rfl⟩
  have hr8 : (0 : Int) ≤ p8.toInt ∧ p8.toInt ≤ 399 := rr_8 (th_row hTH rR) mp8 rfl
  rw [mR] at hTX
  refine lv_aload_n hx hb dX12_go_0 rfl (lv_at hl 0 rfl) ?_
  refine lv_iconst (v := 0) hx hb dX12_go_1 (by decide) ?_
  refine fp_RX12_82 E hW rh0 dX12_go_2 (fun f1 H locs e2 n3 g4 hW => ?_)
  have z5 : RF rw_X12_go f0 f1 h0 := rf_fm hTH rf_rf g4 rh0 rfl
  have hF := FM.tr hF g4 rfl
  refine lv_iload_n hx hb dX12_go_5 rfl (lv_at hl 1 rfl) ?_
  refine q_i2l hx hb dX12_go_6 rfl (fun x6 h7 => ?_)
  have hb8 : -2147483648 ≤ x6.toInt ∧ x6.toInt ≤ 2147483647 := by have := i32_b u1; omega
  refine lv_lconst (v := 1) hx hb dX12_go_7 (by decide) ?_
  refine lv_ldc2 (v := 104) hx hb hown (hts _ tw_1917) dX12_go_8 ?_
  refine t_callS (As := [.long x6, .long 1, .long 104]) (rest := []) E hW (c_X12_in l G cI cJ cZ cD cR cT kp L f1 hW.2.2.2 _ x6 1 104) wk_X12_in tw_1554 rfl ⟨Nat.le_of_ble_eq_true rfl, Nat.le_of_ble_eq_true rfl⟩ ⟨rfl, rfl⟩ hl.1 rfl (Nat.le_of_ble_eq_true rfl) dX12_go_11 ⟨Nat.le_of_ble_eq_true rfl, Nat.le_of_ble_eq_true rfl⟩ (fun v9 f10 H locs q11 hW => ?_)
  obtain ⟨⟨x13, rfl, p14⟩, g12⟩ := q11
  have p14 : (x13.toInt = 1 ∧ 1 ≤ x6.toInt ∧ x6.toInt ≤ 104) ∨ (x13.toInt = 0 ∧ (x6.toInt < 1 ∨ 104 < x6.toInt)) := p14
  have m15 : aI (f10 pR) (8 : Int32).toNatClampNeg = p8 := ((congrArg (fun z => aI z (8 : Int32).toNatClampNeg) (fm_A g12 rR (by decide) rfl)).trans ((congrArg (fun z => aI z (8 : Int32).toNatClampNeg) (fm_A g4 rR (by decide) rfl)).trans mp8))
  have z16 : RF rw_X12_go f0 f10 h0 := rf_fm hTH z5 g12 rh0 rfl
  have hF := FM.tr hF g12 rfl
  refine q_if_eq (tgt := 32) hx hb dX12_go_14 (by decide) rfl (fun c17 => ?_) (fun c17 => ?_)
  · have q18 : (x6.toInt < 1 ∨ 104 < x6.toInt) := by omega
    clear p14
    refine lv_aload_n hx hb dX12_go_32 rfl (lv_at hl 0 rfl) ?_
    refine lv_iconst (v := (-1)) hx hb dX12_go_33 (by decide) ?_
    refine t_callV (As := [.int (-1)]) (rest := []) E hW (c_X12_told l G cI cJ cZ cD cR cT kp L f10 hW.2.2.2 _ h0 (-1) rh0) rh0 (by decide) rfl wk_X12_told tw_1557 rfl ⟨Nat.le_of_ble_eq_true rfl, Nat.le_of_ble_eq_true rfl⟩ ⟨rfl, rfl⟩ hl.1 rfl (Nat.le_of_ble_eq_true rfl) dX12_go_34 ⟨Nat.le_of_ble_eq_true rfl, Nat.le_of_ble_eq_true rfl⟩ (fun v19 f20 H locs q21 hW => ?_)
    obtain ⟨⟨x23, rfl, p24⟩, g22⟩ := q21
    clear p24
    have z25 : RF rw_X12_go f0 f20 h0 := rf_fm hTH z16 g22 rh0 rfl
    have hF := FM.tr hF g22 rfl
    exact e_I E hW rfl ⟨⟨_, rfl, trivial⟩, hF, z25⟩ dX12_go_37
  · have q26 : 1 ≤ x6.toInt ∧ x6.toInt ≤ 104 := by omega
    clear p14
    refine lv_aload_n hx hb dX12_go_17 rfl (lv_at hl 0 rfl) ?_
    refine fg_RX12_8 E hW rh0 dX12_go_18 (fun a27 m28 r29 => ?_)
    obtain rfl : pR = a27 := (((fm_R g12 rh0 rfl).trans ((fm_R g4 rh0 rfl).trans mR))).symm.trans m28
    refine lv_bipush (v := 8) hx hb dX12_go_21 (by decide) ?_
    refine gl_822 E hW rR (by decide) dX12_go_23 (fun y30 m31 b32 => ?_)
    obtain rfl : p8 = y30 := (m15).symm.trans m31
    refine lv_iload_n hx hb dX12_go_24 rfl (lv_at hl 1 rfl) ?_
    refine q_iadd hx hb dX12_go_25 rfl rfl (by omega) (fun x33 h34 => ?_)
    refine lv_sipush (v := 399) hx hb dX12_go_26 (by decide) ?_
    refine q_icmp_le (Y := 399) (tgt := 38) hx hb dX12_go_29 (by decide) rfl rfl (fun c35 => ?_) (fun c35 => ?_)
    · refine lv_iconst (v := 0) hx hb dX12_go_38 (by decide) ?_
      refine lv_istore_n (lv' := [(2, .int 0), (0, .ref h0), (1, .int u1)]) hx hb dX12_go_39 rfl hl (by decide) rfl (fun ls hl => ?_)
      have L874 : ∀ (n : Nat), ∀ (f864 : Nat → va_E) (y867 : Int32) (y869 : Int32) (m865 : oI (f864 h0) 0 = 0) (m866 : oR (f864 h0) 2 = pR) (b868 : (0 : Int) ≤ y867.toInt ∧ y867.toInt ≤ 104) (m870 : aI (f864 pR) (8 : Int32).toNatClampNeg = y869) (b871 : (0 : Int) ≤ y869.toInt ∧ y869.toInt ≤ 399) (z872 : RF rw_X12_go f0 f864 h0) (v873 : y869.toInt = p8.toInt + y867.toInt) (hm : (105 : Int) - y867.toInt ≤ n) (H : Heap) (locs : List Loc) (ls : Array Slot), WS G cI cJ cZ cD cR cT A kp L f864 s H locs → FM kp L ms_X12_go f0 f864 → lv_has ls 3 [(2, .int y867), (0, .ref h0), (1, .int u1)] → W p l e ({ frames := 8, cells := 0, slots := 0, locals := 213 }) s m ([.ref h0, .int u1] : List Value).toArray below meth c H locs 0 0 (MQ below (QT (po_X12_go kp L f0 h0 u1) G cI cJ cZ cD cR cT A kp L) ([.ref h0, .int u1] : List Value).toArray s 0 0 A) (F0 m 40 ls []) := by
        intro n
        induction n with
        | zero =>
          intro f864 y867 y869 m865 m866 b868 m870 b871 z872 v873 hm H locs ls hW hF hl
          have hz := i32_b y867
          exfalso; omega
        | succ n ih =>
          intro f864 y867 y869 m865 m866 b868 m870 b871 z872 v873 hm H locs ls hW hF hl
          clear c17
          have ih40 := ih
          refine lv_iload_n hx hb dX12_go_40 rfl (lv_at hl 0 rfl) ?_
          refine lv_iload_n hx hb dX12_go_41 rfl (lv_at hl 2 rfl) ?_
          refine q_icmp_ge (tgt := 55) hx hb dX12_go_42 (by decide) rfl rfl (fun c887 => ?_) (fun c887 => ?_)
          · refine lv_aload_n hx hb dX12_go_55 rfl (lv_at hl 1 rfl) ?_
            refine lv_aload_n hx hb dX12_go_56 rfl (lv_at hl 1 rfl) ?_
            refine fg_RX12_8 E hW rh0 dX12_go_57 (fun a888 m889 r890 => ?_)
            obtain rfl : pR = a888 := (m866).symm.trans m889
            refine lv_bipush (v := 8) hx hb dX12_go_60 (by decide) ?_
            refine gl_822 E hW rR (by decide) dX12_go_62 (fun y891 m892 b893 => ?_)
            obtain rfl : y869 = y891 := (m870).symm.trans m892
            refine t_callV (As := [.int y869]) (rest := []) E hW (c_X12_told l G cI cJ cZ cD cR cT kp L f864 hW.2.2.2 _ h0 y869 rh0) rh0 (by decide) rfl wk_X12_told tw_1557 rfl ⟨Nat.le_of_ble_eq_true rfl, Nat.le_of_ble_eq_true rfl⟩ ⟨rfl, rfl⟩ hl.1 rfl (Nat.le_of_ble_eq_true rfl) dX12_go_63 ⟨Nat.le_of_ble_eq_true rfl, Nat.le_of_ble_eq_true rfl⟩ (fun v894 f895 H locs q896 hW => ?_)
            obtain ⟨⟨x898, rfl, p899⟩, g897⟩ := q896
            clear p899
            have z900 : RF rw_X12_go f0 f895 h0 := rf_fm hTH z872 g897 rh0 rfl
            have hF := FM.tr hF g897 rfl
            exact e_I E hW rfl ⟨⟨_, rfl, trivial⟩, hF, z900⟩ dX12_go_66
          · refine lv_aload_n hx hb dX12_go_45 rfl (lv_at hl 1 rfl) ?_
            refine t_callV (As := []) (rest := []) E hW (c_X12_goWeek l G cI cJ cZ cD cR cT kp L f864 hW.2.2.2 _ h0 rh0 (by rw [m866, m870]; omega) (by rw [m866]; exact (tx_rf hTX z872 mR rfl rfl))) rh0 (by decide) rfl wk_X12_goWeek tw_1918 rfl ⟨Nat.le_of_ble_eq_true rfl, Nat.le_of_ble_eq_true rfl⟩ ⟨rfl, rfl⟩ hl.1 rfl (Nat.le_of_ble_eq_true rfl) dX12_go_46 ⟨Nat.le_of_ble_eq_true rfl, Nat.le_of_ble_eq_true rfl⟩ (fun v901 f902 H locs q903 hW => ?_)
            obtain ⟨rfl, g904, h905, h906⟩ := q903
            have z907 : RF rw_X12_go f0 f902 h0 := rf_call z872 h906 mR m866 rfl
            have hF := FM.tr hF g904 rfl
            obtain ⟨y908, m909⟩ : ∃ x : Int32, aI (f902 pR) (8 : Int32).toNatClampNeg = x := ⟨_, rfl⟩
            have b910 : (0 : Int) ≤ y908.toInt ∧ y908.toInt ≤ 399 := rr_8 (th_row hW.2.2.2 rR) m909 rfl
            rw [m866, m909, m870] at h905
            refine q_iinc hx hb dX12_go_49 hl (k := 0) rfl rfl rfl (by omega) (by decide) (fun i911 ls h912 hl => ?_)
            have hl : lv_has ls 3 [(2, .int i911), (0, .ref h0), (1, .int u1)] := hl
            refine lv_goto (tgt := 40) hx hb dX12_go_52 (by decide) ?_
            exact ih40 f902 i911 y908 ((fm_I g904 rh0 rfl).trans m865) ((fm_R g904 rh0 rfl).trans m866) (by omega) m909 (by omega) z907 (by omega) (by omega) _ _ _ hW hF (lv_sub hl [0, 1, 2] rfl)
      have hk913 : (0 : Int32).toInt = 0 := rfl
      exact L874 105 f10 0 p8 ((fm_I g12 rh0 rfl).trans e2) m28 (by decide) m31 (by omega) z16 (by omega) (by omega) _ _ _ hW hF (lv_sub hl [0, 1, 2] rfl)
    · refine lv_aload_n hx hb dX12_go_32 rfl (lv_at hl 0 rfl) ?_
      refine lv_iconst (v := (-1)) hx hb dX12_go_33 (by decide) ?_
      refine t_callV (As := [.int (-1)]) (rest := []) E hW (c_X12_told l G cI cJ cZ cD cR cT kp L f10 hW.2.2.2 _ h0 (-1) rh0) rh0 (by decide) rfl wk_X12_told tw_1557 rfl ⟨Nat.le_of_ble_eq_true rfl, Nat.le_of_ble_eq_true rfl⟩ ⟨rfl, rfl⟩ hl.1 rfl (Nat.le_of_ble_eq_true rfl) dX12_go_34 ⟨Nat.le_of_ble_eq_true rfl, Nat.le_of_ble_eq_true rfl⟩ (fun v914 f915 H locs q916 hW => ?_)
      obtain ⟨⟨x918, rfl, p919⟩, g917⟩ := q916
      clear p919
      have z920 : RF rw_X12_go f0 f915 h0 := rf_fm hTH z16 g917 rh0 rfl
      have hF := FM.tr hF g917 rfl
      exact e_I E hW rfl ⟨⟨_, rfl, trivial⟩, hF, z920⟩ dX12_go_37
