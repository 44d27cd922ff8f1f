theorem dX12_numberOf_0 : decode cX12_numberOf 0 = .ok (.aload_n 0, 1) := by decide +kernel
theorem dX12_numberOf_1 : decode cX12_numberOf 1 = .ok (.getfield 29, 3) := by decide +kernel
theorem dX12_numberOf_4 : decode cX12_numberOf 4 = .ok (.iload_n 1, 1) := by decide +kernel
theorem dX12_numberOf_5 : decode cX12_numberOf 5 = .ok (.baload, 1) := by decide +kernel
theorem dX12_numberOf_6 : decode cX12_numberOf 6 = .ok (.ifCond .eq 10, 3) := by decide +kernel
theorem dX12_numberOf_16 : decode cX12_numberOf 16 = .ok (.iload_n 1, 1) := by decide +kernel
theorem dX12_numberOf_17 : decode cX12_numberOf 17 = .ok (.iconst 1, 1) := by decide +kernel
theorem dX12_numberOf_18 : decode cX12_numberOf 18 = .ok (.isub, 1) := by decide +kernel
theorem dX12_numberOf_19 : decode cX12_numberOf 19 = .ok (.istore_n 3, 1) := by decide +kernel
theorem dX12_numberOf_20 : decode cX12_numberOf 20 = .ok (.iload_n 3, 1) := by decide +kernel
theorem dX12_numberOf_21 : decode cX12_numberOf 21 = .ok (.ifCond .lt 18, 3) := by decide +kernel
theorem dX12_numberOf_39 : decode cX12_numberOf 39 = .ok (.iload_n 1, 1) := by decide +kernel
theorem dX12_numberOf_40 : decode cX12_numberOf 40 = .ok (.iconst 1, 1) := by decide +kernel
theorem dX12_numberOf_41 : decode cX12_numberOf 41 = .ok (.iadd, 1) := by decide +kernel
theorem dX12_numberOf_42 : decode cX12_numberOf 42 = .ok (.istore 4, 2) := by decide +kernel
theorem dX12_numberOf_44 : decode cX12_numberOf 44 = .ok (.iload 4, 2) := by decide +kernel
theorem dX12_numberOf_46 : decode cX12_numberOf 46 = .ok (.iload_n 2, 1) := by decide +kernel
theorem dX12_numberOf_47 : decode cX12_numberOf 47 = .ok (.if_icmp .ge 19, 3) := by decide +kernel
theorem dX12_numberOf_66 : decode cX12_numberOf 66 = .ok (.iload_n 3, 1) := by decide +kernel
theorem dX12_numberOf_67 : decode cX12_numberOf 67 = .ok (.ifCond .lt 28, 3) := by decide +kernel
theorem dX12_numberOf_95 : decode cX12_numberOf 95 = .ok (.iload_n 3, 1) := by decide +kernel
theorem dX12_numberOf_96 : decode cX12_numberOf 96 = .ok (.ifCond .lt 12, 3) := by decide +kernel
theorem dX12_numberOf_125 : decode cX12_numberOf 125 = .ok (.dreturn, 1) := by decide +kernel
theorem dX12_numberOf_108 : decode cX12_numberOf 108 = .ok (.iload 4, 2) := by decide +kernel
theorem dX12_numberOf_110 : decode cX12_numberOf 110 = .ok (.iload_n 2, 1) := by decide +kernel
theorem dX12_numberOf_111 : decode cX12_numberOf 111 = .ok (.if_icmp .ge 13, 3) := by decide +kernel
theorem dX12_numberOf_124 : decode cX12_numberOf 124 = .ok (.dconst 0, 1) := by decide +kernel
theorem dX12_numberOf_114 : decode cX12_numberOf 114 = .ok (.aload_n 0, 1) := by decide +kernel
theorem dX12_numberOf_115 : decode cX12_numberOf 115 = .ok (.getfield 25, 3) := by decide +kernel
theorem dX12_numberOf_118 : decode cX12_numberOf 118 = .ok (.iload 4, 2) := by decide +kernel
theorem dX12_numberOf_120 : decode cX12_numberOf 120 = .ok (.daload, 1) := by decide +kernel
theorem dX12_numberOf_121 : decode cX12_numberOf 121 = .ok (.goto 4, 3) := by decide +kernel
theorem dX12_numberOf_70 : decode cX12_numberOf 70 = .ok (.iload 4, 2) := by decide +kernel
theorem dX12_numberOf_72 : decode cX12_numberOf 72 = .ok (.iload_n 2, 1) := by decide +kernel
theorem dX12_numberOf_73 : decode cX12_numberOf 73 = .ok (.if_icmp .ge 22, 3) := by decide +kernel
theorem dX12_numberOf_99 : decode cX12_numberOf 99 = .ok (.aload_n 0, 1) := by decide +kernel
theorem dX12_numberOf_100 : decode cX12_numberOf 100 = .ok (.getfield 25, 3) := by decide +kernel
theorem dX12_numberOf_103 : decode cX12_numberOf 103 = .ok (.iload_n 3, 1) := by decide +kernel
theorem dX12_numberOf_104 : decode cX12_numberOf 104 = .ok (.daload, 1) := by decide +kernel
theorem dX12_numberOf_105 : decode cX12_numberOf 105 = .ok (.goto 20, 3) := by decide +kernel
theorem dX12_numberOf_76 : decode cX12_numberOf 76 = .ok (.aload_n 0, 1) := by decide +kernel
theorem dX12_numberOf_77 : decode cX12_numberOf 77 = .ok (.getfield 25, 3) := by decide +kernel
theorem dX12_numberOf_80 : decode cX12_numberOf 80 = .ok (.iload_n 3, 1) := by decide +kernel
theorem dX12_numberOf_81 : decode cX12_numberOf 81 = .ok (.daload, 1) := by decide +kernel
theorem dX12_numberOf_82 : decode cX12_numberOf 82 = .ok (.aload_n 0, 1) := by decide +kernel
theorem dX12_numberOf_83 : decode cX12_numberOf 83 = .ok (.getfield 25, 3) := by decide +kernel
theorem dX12_numberOf_86 : decode cX12_numberOf 86 = .ok (.iload 4, 2) := by decide +kernel
theorem dX12_numberOf_88 : decode cX12_numberOf 88 = .ok (.daload, 1) := by decide +kernel
theorem dX12_numberOf_89 : decode cX12_numberOf 89 = .ok (.dadd, 1) := by decide +kernel
theorem dX12_numberOf_90 : decode cX12_numberOf 90 = .ok (.ldc2_w 170, 3) := by decide +kernel
theorem dX12_numberOf_93 : decode cX12_numberOf 93 = .ok (.ddiv, 1) := by decide +kernel
theorem dX12_numberOf_94 : decode cX12_numberOf 94 = .ok (.dreturn, 1) := by decide +kernel
theorem dX12_numberOf_50 : decode cX12_numberOf 50 = .ok (.aload_n 0, 1) := by decide +kernel
theorem dX12_numberOf_51 : decode cX12_numberOf 51 = .ok (.getfield 29, 3) := by decide +kernel
theorem dX12_numberOf_54 : decode cX12_numberOf 54 = .ok (.iload 4, 2) := by decide +kernel
theorem dX12_numberOf_56 : decode cX12_numberOf 56 = .ok (.baload, 1) := by decide +kernel
theorem dX12_numberOf_57 : decode cX12_numberOf 57 = .ok (.ifCond .ne 9, 3) := by decide +kernel
theorem dX12_numberOf_60 : decode cX12_numberOf 60 = .ok (.iinc 4 1, 3) := by decide +kernel
theorem dX12_numberOf_63 : decode cX12_numberOf 63 = .ok (.goto (-19), 3) := by decide +kernel
theorem dX12_numberOf_24 : decode cX12_numberOf 24 = .ok (.aload_n 0, 1) := by decide +kernel
theorem dX12_numberOf_25 : decode cX12_numberOf 25 = .ok (.getfield 29, 3) := by decide +kernel
theorem dX12_numberOf_28 : decode cX12_numberOf 28 = .ok (.iload_n 3, 1) := by decide +kernel
theorem dX12_numberOf_29 : decode cX12_numberOf 29 = .ok (.baload, 1) := by decide +kernel
theorem dX12_numberOf_30 : decode cX12_numberOf 30 = .ok (.ifCond .ne 9, 3) := by decide +kernel
theorem dX12_numberOf_33 : decode cX12_numberOf 33 = .ok (.iinc 3 (-1), 3) := by decide +kernel
theorem dX12_numberOf_36 : decode cX12_numberOf 36 = .ok (.goto (-16), 3) := by decide +kernel
theorem dX12_numberOf_9 : decode cX12_numberOf 9 = .ok (.aload_n 0, 1) := by decide +kernel
theorem dX12_numberOf_10 : decode cX12_numberOf 10 = .ok (.getfield 25, 3) := by decide +kernel
theorem dX12_numberOf_13 : decode cX12_numberOf 13 = .ok (.iload_n 1, 1) := by decide +kernel
theorem dX12_numberOf_14 : decode cX12_numberOf 14 = .ok (.daload, 1) := by decide +kernel
theorem dX12_numberOf_15 : decode cX12_numberOf 15 = .ok (.dreturn, 1) := by decide +kernel
theorem dX12_readFloat_0 : decode cX12_readFloat 0 = .ok (.aload_n 0, 1) := by decide +kernel
theorem dX12_readFloat_1 : decode cX12_readFloat 1 = .ok (.getfield 32, 3) := by decide +kernel
theorem dX12_readFloat_4 : decode cX12_readFloat 4 = .ok (.iconst 4, 1) := by decide +kernel
theorem dX12_readFloat_5 : decode cX12_readFloat 5 = .ok (.iload_n 1, 1) := by decide +kernel
theorem dX12_readFloat_6 : decode cX12_readFloat 6 = .ok (.imul, 1) := by decide +kernel
theorem dX12_readFloat_7 : decode cX12_readFloat 7 = .ok (.iaload, 1) := by decide +kernel
theorem dX12_readFloat_8 : decode cX12_readFloat 8 = .ok (.bipush 24, 2) := by decide +kernel
theorem dX12_readFloat_10 : decode cX12_readFloat 10 = .ok (.ishl, 1) := by decide +kernel
theorem dX12_readFloat_11 : decode cX12_readFloat 11 = .ok (.aload_n 0, 1) := by decide +kernel
theorem dX12_readFloat_12 : decode cX12_readFloat 12 = .ok (.getfield 32, 3) := by decide +kernel
theorem dX12_readFloat_15 : decode cX12_readFloat 15 = .ok (.iconst 4, 1) := by decide +kernel
theorem dX12_readFloat_16 : decode cX12_readFloat 16 = .ok (.iload_n 1, 1) := by decide +kernel
theorem dX12_readFloat_17 : decode cX12_readFloat 17 = .ok (.imul, 1) := by decide +kernel
theorem dX12_readFloat_18 : decode cX12_readFloat 18 = .ok (.iconst 1, 1) := by decide +kernel
theorem dX12_readFloat_19 : decode cX12_readFloat 19 = .ok (.iadd, 1) := by decide +kernel
theorem dX12_readFloat_20 : decode cX12_readFloat 20 = .ok (.iaload, 1) := by decide +kernel
theorem dX12_readFloat_21 : decode cX12_readFloat 21 = .ok (.bipush 16, 2) := by decide +kernel
theorem dX12_readFloat_23 : decode cX12_readFloat 23 = .ok (.ishl, 1) := by decide +kernel
theorem dX12_readFloat_24 : decode cX12_readFloat 24 = .ok (.ior, 1) := by decide +kernel
theorem dX12_readFloat_25 : decode cX12_readFloat 25 = .ok (.aload_n 0, 1) := by decide +kernel
theorem dX12_readFloat_26 : decode cX12_readFloat 26 = .ok (.getfield 32, 3) := by decide +kernel
theorem dX12_readFloat_29 : decode cX12_readFloat 29 = .ok (.iconst 4, 1) := by decide +kernel
theorem dX12_readFloat_30 : decode cX12_readFloat 30 = .ok (.iload_n 1, 1) := by decide +kernel
theorem dX12_readFloat_31 : decode cX12_readFloat 31 = .ok (.imul, 1) := by decide +kernel
theorem dX12_readFloat_32 : decode cX12_readFloat 32 = .ok (.iconst 2, 1) := by decide +kernel
theorem dX12_readFloat_33 : decode cX12_readFloat 33 = .ok (.iadd, 1) := by decide +kernel
theorem dX12_readFloat_34 : decode cX12_readFloat 34 = .ok (.iaload, 1) := by decide +kernel
theorem dX12_readFloat_35 : decode cX12_readFloat 35 = .ok (.bipush 8, 2) := by decide +kernel
theorem dX12_readFloat_37 : decode cX12_readFloat 37 = .ok (.ishl, 1) := by decide +kernel
theorem dX12_readFloat_38 : decode cX12_readFloat 38 = .ok (.ior, 1) := by decide +kernel
theorem dX12_readFloat_39 : decode cX12_readFloat 39 = .ok (.aload_n 0, 1) := by decide +kernel
theorem dX12_readFloat_40 : decode cX12_readFloat 40 = .ok (.getfield 32, 3) := by decide +kernel
theorem dX12_readFloat_43 : decode cX12_readFloat 43 = .ok (.iconst 4, 1) := by decide +kernel
theorem dX12_readFloat_44 : decode cX12_readFloat 44 = .ok (.iload_n 1, 1) := by decide +kernel
theorem dX12_readFloat_45 : decode cX12_readFloat 45 = .ok (.imul, 1) := by decide +kernel
theorem dX12_readFloat_46 : decode cX12_readFloat 46 = .ok (.iconst 3, 1) := by decide +kernel
theorem dX12_readFloat_47 : decode cX12_readFloat 47 = .ok (.iadd, 1) := by decide +kernel
theorem dX12_readFloat_48 : decode cX12_readFloat 48 = .ok (.iaload, 1) := by decide +kernel
theorem dX12_readFloat_49 : decode cX12_readFloat 49 = .ok (.ior, 1) := by decide +kernel
theorem dX12_readFloat_50 : decode cX12_readFloat 50 = .ok (.istore_n 2, 1) := by decide +kernel
theorem dX12_readFloat_51 : decode cX12_readFloat 51 = .ok (.iload_n 2, 1) := by decide +kernel
theorem dX12_readFloat_52 : decode cX12_readFloat 52 = .ok (.bipush 23, 2) := by decide +kernel
theorem dX12_readFloat_54 : decode cX12_readFloat 54 = .ok (.ishr, 1) := by decide +kernel
theorem dX12_readFloat_55 : decode cX12_readFloat 55 = .ok (.sipush 255, 3) := by decide +kernel
theorem dX12_readFloat_58 : decode cX12_readFloat 58 = .ok (.iand, 1) := by decide +kernel
theorem dX12_readFloat_59 : decode cX12_readFloat 59 = .ok (.istore_n 3, 1) := by decide +kernel
theorem dX12_readFloat_60 : decode cX12_readFloat 60 = .ok (.iload_n 3, 1) := by decide +kernel
theorem dX12_readFloat_61 : decode cX12_readFloat 61 = .ok (.ifCond .ne 10, 3) := by decide +kernel
theorem dX12_readFloat_78 : decode cX12_readFloat 78 = .ok (.istore 4, 2) := by decide +kernel
theorem dX12_readFloat_80 : decode cX12_readFloat 80 = .ok (.aload_n 0, 1) := by decide +kernel
theorem dX12_readFloat_81 : decode cX12_readFloat 81 = .ok (.getfield 25, 3) := by decide +kernel
theorem dX12_readFloat_84 : decode cX12_readFloat 84 = .ok (.iload_n 1, 1) := by decide +kernel
theorem dX12_readFloat_85 : decode cX12_readFloat 85 = .ok (.dconst 0, 1) := by decide +kernel
theorem dX12_readFloat_86 : decode cX12_readFloat 86 = .ok (.dastore, 1) := by decide +kernel
theorem dX12_readFloat_87 : decode cX12_readFloat 87 = .ok (.iload_n 3, 1) := by decide +kernel
theorem dX12_readFloat_88 : decode cX12_readFloat 88 = .ok (.sipush 255, 3) := by decide +kernel
theorem dX12_readFloat_91 : decode cX12_readFloat 91 = .ok (.if_icmp .eq 19, 3) := by decide +kernel
theorem dX12_readFloat_110 : decode cX12_readFloat 110 = .ok (.iconst 0, 1) := by decide +kernel
theorem dX12_readFloat_111 : decode cX12_readFloat 111 = .ok (.ireturn, 1) := by decide +kernel
theorem dX12_readFloat_94 : decode cX12_readFloat 94 = .ok (.iload_n 2, 1) := by decide +kernel
theorem dX12_readFloat_95 : decode cX12_readFloat 95 = .ok (.ifCond .ge 8, 3) := by decide +kernel
theorem dX12_readFloat_103 : decode cX12_readFloat 103 = .ok (.iload_n 3, 1) := by decide +kernel
theorem dX12_readFloat_104 : decode cX12_readFloat 104 = .ok (.sipush 136, 3) := by decide +kernel
theorem dX12_readFloat_107 : decode cX12_readFloat 107 = .ok (.if_icmp .le 5, 3) := by decide +kernel
theorem dX12_readFloat_112 : decode cX12_readFloat 112 = .ok (.iload 4, 2) := by decide +kernel
theorem dX12_readFloat_114 : decode cX12_readFloat 114 = .ok (.i2d, 1) := by decide +kernel
theorem dX12_readFloat_115 : decode cX12_readFloat 115 = .ok (.dstore 5, 2) := by decide +kernel
theorem dX12_readFloat_117 : decode cX12_readFloat 117 = .ok (.iload_n 3, 1) := by decide +kernel
theorem dX12_readFloat_118 : decode cX12_readFloat 118 = .ok (.ifCond .ne 7, 3) := by decide +kernel
theorem dX12_readFloat_126 : decode cX12_readFloat 126 = .ok (.istore 7, 2) := by decide +kernel
theorem dX12_readFloat_128 : decode cX12_readFloat 128 = .ok (.iload 7, 2) := by decide +kernel
theorem dX12_readFloat_130 : decode cX12_readFloat 130 = .ok (.sipush 150, 3) := by decide +kernel
theorem dX12_readFloat_133 : decode cX12_readFloat 133 = .ok (.if_icmp .ge 17, 3) := by decide +kernel
theorem dX12_readFloat_150 : decode cX12_readFloat 150 = .ok (.aload_n 0, 1) := by decide +kernel
theorem dX12_readFloat_151 : decode cX12_readFloat 151 = .ok (.getfield 25, 3) := by decide +kernel
theorem dX12_readFloat_154 : decode cX12_readFloat 154 = .ok (.iload_n 1, 1) := by decide +kernel
theorem dX12_readFloat_155 : decode cX12_readFloat 155 = .ok (.dload 5, 2) := by decide +kernel
theorem dX12_readFloat_157 : decode cX12_readFloat 157 = .ok (.dastore, 1) := by decide +kernel
theorem dX12_readFloat_158 : decode cX12_readFloat 158 = .ok (.dload 5, 2) := by decide +kernel
theorem dX12_readFloat_160 : decode cX12_readFloat 160 = .ok (.ldc2_w 172, 3) := by decide +kernel
theorem dX12_readFloat_163 : decode cX12_readFloat 163 = .ok (.dcmp .g, 1) := by decide +kernel
theorem dX12_readFloat_164 : decode cX12_readFloat 164 = .ok (.ifCond .gt 7, 3) := by decide +kernel
theorem dX12_readFloat_172 : decode cX12_readFloat 172 = .ok (.ireturn, 1) := by decide +kernel
theorem dX12_readFloat_171 : decode cX12_readFloat 171 = .ok (.iconst 0, 1) := by decide +kernel
theorem dX12_readFloat_167 : decode cX12_readFloat 167 = .ok (.iconst 1, 1) := by decide +kernel
theorem dX12_readFloat_168 : decode cX12_readFloat 168 = .ok (.goto 4, 3) := by decide +kernel
theorem dX12_readFloat_136 : decode cX12_readFloat 136 = .ok (.dload 5, 2) := by decide +kernel
theorem dX12_readFloat_138 : decode cX12_readFloat 138 = .ok (.ldc2_w 170, 3) := by decide +kernel
theorem dX12_readFloat_141 : decode cX12_readFloat 141 = .ok (.ddiv, 1) := by decide +kernel
theorem dX12_readFloat_142 : decode cX12_readFloat 142 = .ok (.dstore 5, 2) := by decide +kernel
theorem dX12_readFloat_144 : decode cX12_readFloat 144 = .ok (.iinc 7 1, 3) := by decide +kernel
theorem dX12_readFloat_147 : decode cX12_readFloat 147 = .ok (.goto (-19), 3) := by decide +kernel
theorem dX12_readFloat_125 : decode cX12_readFloat 125 = .ok (.iload_n 3, 1) := by decide +kernel
theorem dX12_readFloat_121 : decode cX12_readFloat 121 = .ok (.iconst 1, 1) := by decide +kernel
theorem dX12_readFloat_122 : decode cX12_readFloat 122 = .ok (.goto 4, 3) := by decide +kernel
theorem dX12_readFloat_98 : decode cX12_readFloat 98 = .ok (.iload 4, 2) := by decide +kernel
theorem dX12_readFloat_100 : decode cX12_readFloat 100 = .ok (.ifCond .ne 10, 3) := by decide +kernel
theorem dX12_readFloat_71 : decode cX12_readFloat 71 = .ok (.iload_n 2, 1) := by decide +kernel
theorem dX12_readFloat_72 : decode cX12_readFloat 72 = .ok (.ldc 168, 2) := by decide +kernel
theorem dX12_readFloat_74 : decode cX12_readFloat 74 = .ok (.iand, 1) := by decide +kernel
theorem dX12_readFloat_75 : decode cX12_readFloat 75 = .ok (.ldc 169, 2) := by decide +kernel
theorem dX12_readFloat_77 : decode cX12_readFloat 77 = .ok (.ior, 1) := by decide +kernel
theorem dX12_readFloat_64 : decode cX12_readFloat 64 = .ok (.iload_n 2, 1) := by decide +kernel
theorem dX12_readFloat_65 : decode cX12_readFloat 65 = .ok (.ldc 168, 2) := by decide +kernel
theorem dX12_readFloat_67 : decode cX12_readFloat 67 = .ok (.iand, 1) := by decide +kernel
theorem dX12_readFloat_68 : decode cX12_readFloat 68 = .ok (.goto 10, 3) := by decide +kernel
theorem dX12_row_0 : decode cX12_row 0 = .ok (.aload_n 0, 1) := by decide +kernel
theorem dX12_row_1 : decode cX12_row 1 = .ok (.iconst 0, 1) := by decide +kernel
theorem dX12_row_2 : decode cX12_row 2 = .ok (.putfield 82, 3) := by decide +kernel
theorem dX12_row_5 : decode cX12_row 5 = .ok (.aload_n 0, 1) := by decide +kernel
theorem dX12_row_6 : decode cX12_row 6 = .ok (.getfield 174, 3) := by decide +kernel
theorem dX12_row_9 : decode cX12_row 9 = .ok (.istore_n 3, 1) := by decide +kernel
theorem dX12_row_10 : decode cX12_row 10 = .ok (.aload_n 0, 1) := by decide +kernel
theorem dX12_row_11 : decode cX12_row 11 = .ok (.iconst 0, 1) := by decide +kernel
theorem dX12_row_12 : decode cX12_row 12 = .ok (.putfield 174, 3) := by decide +kernel
theorem dX12_row_15 : decode cX12_row 15 = .ok (.iload_n 1, 1) := by decide +kernel
theorem dX12_row_16 : decode cX12_row 16 = .ok (.invokestatic 156, 3) := by decide +kernel
theorem dX12_row_19 : decode cX12_row 19 = .ok (.ifCond .ne 9, 3) := by decide +kernel
theorem dX12_row_28 : decode cX12_row 28 = .ok (.aload_n 0, 1) := by decide +kernel
theorem dX12_row_29 : decode cX12_row 29 = .ok (.iload_n 2, 1) := by decide +kernel
theorem dX12_row_30 : decode cX12_row 30 = .ok (.invokevirtual 141, 3) := by decide +kernel
theorem dX12_row_33 : decode cX12_row 33 = .ok (.ifCond .ne 10, 3) := by decide +kernel
theorem dX12_row_43 : decode cX12_row 43 = .ok (.iload_n 1, 1) := by decide +kernel
theorem dX12_row_44 : decode cX12_row 44 = .ok (.aload_n 0, 1) := by decide +kernel
theorem dX12_row_45 : decode cX12_row 45 = .ok (.getfield 8, 3) := by decide +kernel
theorem dX12_row_48 : decode cX12_row 48 = .ok (.bipush 8, 2) := by decide +kernel
theorem dX12_row_50 : decode cX12_row 50 = .ok (.iaload, 1) := by decide +kernel
theorem dX12_row_51 : decode cX12_row 51 = .ok (.if_icmp .ge 10, 3) := by decide +kernel
theorem dX12_row_61 : decode cX12_row 61 = .ok (.sipush 1582, 3) := by decide +kernel
theorem dX12_row_64 : decode cX12_row 64 = .ok (.bipush 41, 2) := by decide +kernel
theorem dX12_row_66 : decode cX12_row 66 = .ok (.iload_n 1, 1) := by decide +kernel
theorem dX12_row_67 : decode cX12_row 67 = .ok (.imul, 1) := by decide +kernel
theorem dX12_row_68 : decode cX12_row 68 = .ok (.iadd, 1) := by decide +kernel
theorem dX12_row_69 : decode cX12_row 69 = .ok (.istore 4, 2) := by decide +kernel
theorem dX12_row_71 : decode cX12_row 71 = .ok (.aload_n 0, 1) := by decide +kernel
theorem dX12_row_72 : decode cX12_row 72 = .ok (.getfield 8, 3) := by decide +kernel
theorem dX12_row_75 : decode cX12_row 75 = .ok (.iload 4, 2) := by decide +kernel
theorem dX12_row_77 : decode cX12_row 77 = .ok (.iaload, 1) := by decide +kernel
theorem dX12_row_78 : decode cX12_row 78 = .ok (.iconst 1, 1) := by decide +kernel
theorem dX12_row_79 : decode cX12_row 79 = .ok (.if_icmp .ne 10, 3) := by decide +kernel
theorem dX12_row_89 : decode cX12_row 89 = .ok (.iload_n 3, 1) := by decide +kernel
theorem dX12_row_90 : decode cX12_row 90 = .ok (.iconst 4, 1) := by decide +kernel
theorem dX12_row_91 : decode cX12_row 91 = .ok (.idiv, 1) := by decide +kernel
theorem dX12_row_92 : decode cX12_row 92 = .ok (.istore 5, 2) := by decide +kernel
theorem dX12_row_94 : decode cX12_row 94 = .ok (.iload_n 3, 1) := by decide +kernel
theorem dX12_row_95 : decode cX12_row 95 = .ok (.ifCond .eq 19, 3) := by decide +kernel
theorem dX12_row_114 : decode cX12_row 114 = .ok (.aload_n 0, 1) := by decide +kernel
theorem dX12_row_115 : decode cX12_row 115 = .ok (.bipush (-6), 2) := by decide +kernel
theorem dX12_row_117 : decode cX12_row 117 = .ok (.invokevirtual 94, 3) := by decide +kernel
theorem dX12_row_120 : decode cX12_row 120 = .ok (.ireturn, 1) := by decide +kernel
theorem dX12_row_98 : decode cX12_row 98 = .ok (.iload_n 2, 1) := by decide +kernel
theorem dX12_row_99 : decode cX12_row 99 = .ok (.iload_n 3, 1) := by decide +kernel
theorem dX12_row_100 : decode cX12_row 100 = .ok (.iconst 3, 1) := by decide +kernel
theorem dX12_row_101 : decode cX12_row 101 = .ok (.iadd, 1) := by decide +kernel
theorem dX12_row_102 : decode cX12_row 102 = .ok (.iconst 4, 1) := by decide +kernel
theorem dX12_row_103 : decode cX12_row 103 = .ok (.idiv, 1) := by decide +kernel
theorem dX12_row_104 : decode cX12_row 104 = .ok (.iadd, 1) := by decide +kernel
theorem dX12_row_105 : decode cX12_row 105 = .ok (.aload_n 0, 1) := by decide +kernel
theorem dX12_row_106 : decode cX12_row 106 = .ok (.getfield 8, 3) := by decide +kernel
theorem dX12_row_109 : decode cX12_row 109 = .ok (.iconst 2, 1) := by decide +kernel
theorem dX12_row_110 : decode cX12_row 110 = .ok (.iaload, 1) := by decide +kernel
theorem dX12_row_111 : decode cX12_row 111 = .ok (.if_icmp .le 10, 3) := by decide +kernel
theorem dX12_row_121 : decode cX12_row 121 = .ok (.iconst 0, 1) := by decide +kernel
theorem dX12_row_122 : decode cX12_row 122 = .ok (.istore 6, 2) := by decide +kernel
theorem dX12_row_124 : decode cX12_row 124 = .ok (.iload 6, 2) := by decide +kernel
theorem dX12_row_126 : decode cX12_row 126 = .ok (.iload 5, 2) := by decide +kernel
theorem dX12_row_128 : decode cX12_row 128 = .ok (.if_icmp .ge 22, 3) := by decide +kernel
theorem dX12_row_150 : decode cX12_row 150 = .ok (.aload_n 0, 1) := by decide +kernel
theorem dX12_row_151 : decode cX12_row 151 = .ok (.getfield 8, 3) := by decide +kernel
theorem dX12_row_154 : decode cX12_row 154 = .ok (.iload 4, 2) := by decide +kernel
theorem dX12_row_156 : decode cX12_row 156 = .ok (.iconst 1, 1) := by decide +kernel
theorem dX12_row_157 : decode cX12_row 157 = .ok (.iastore, 1) := by decide +kernel
theorem dX12_row_158 : decode cX12_row 158 = .ok (.iconst 0, 1) := by decide +kernel
theorem dX12_row_159 : decode cX12_row 159 = .ok (.istore 6, 2) := by decide +kernel
theorem dX12_row_161 : decode cX12_row 161 = .ok (.iload 6, 2) := by decide +kernel
theorem dX12_row_163 : decode cX12_row 163 = .ok (.iload 5, 2) := by decide +kernel
theorem dX12_row_165 : decode cX12_row 165 = .ok (.if_icmp .ge 58, 3) := by decide +kernel
theorem dX12_row_223 : decode cX12_row 223 = .ok (.aload_n 0, 1) := by decide +kernel
theorem dX12_row_224 : decode cX12_row 224 = .ok (.iload 5, 2) := by decide +kernel
theorem dX12_row_226 : decode cX12_row 226 = .ok (.invokevirtual 94, 3) := by decide +kernel
theorem dX12_row_229 : decode cX12_row 229 = .ok (.ireturn, 1) := by decide +kernel
theorem dX12_row_168 : decode cX12_row 168 = .ok (.aload_n 0, 1) := by decide +kernel
theorem dX12_row_169 : decode cX12_row 169 = .ok (.getfield 8, 3) := by decide +kernel
theorem dX12_row_172 : decode cX12_row 172 = .ok (.iload_n 2, 1) := by decide +kernel
theorem dX12_row_173 : decode cX12_row 173 = .ok (.iload 6, 2) := by decide +kernel
theorem dX12_row_175 : decode cX12_row 175 = .ok (.iadd, 1) := by decide +kernel
theorem dX12_row_176 : decode cX12_row 176 = .ok (.invokestatic 135, 3) := by decide +kernel
theorem dX12_row_179 : decode cX12_row 179 = .ok (.iconst 1, 1) := by decide +kernel
theorem dX12_row_180 : decode cX12_row 180 = .ok (.iadd, 1) := by decide +kernel
theorem dX12_row_181 : decode cX12_row 181 = .ok (.iaload, 1) := by decide +kernel
theorem dX12_row_182 : decode cX12_row 182 = .ok (.istore 7, 2) := by decide +kernel
theorem dX12_row_184 : decode cX12_row 184 = .ok (.aload_n 0, 1) := by decide +kernel
theorem dX12_row_185 : decode cX12_row 185 = .ok (.getfield 8, 3) := by decide +kernel
theorem dX12_row_188 : decode cX12_row 188 = .ok (.iload 4, 2) := by decide +kernel
theorem dX12_row_190 : decode cX12_row 190 = .ok (.iconst 1, 1) := by decide +kernel
theorem dX12_row_191 : decode cX12_row 191 = .ok (.iadd, 1) := by decide +kernel
theorem dX12_row_192 : decode cX12_row 192 = .ok (.iload_n 2, 1) := by decide +kernel
theorem dX12_row_193 : decode cX12_row 193 = .ok (.iadd, 1) := by decide +kernel
theorem dX12_row_194 : decode cX12_row 194 = .ok (.iload 6, 2) := by decide +kernel
theorem dX12_row_196 : decode cX12_row 196 = .ok (.iadd, 1) := by decide +kernel
theorem dX12_row_197 : decode cX12_row 197 = .ok (.aload_n 0, 1) := by decide +kernel
theorem dX12_row_198 : decode cX12_row 198 = .ok (.iload 6, 2) := by decide +kernel
theorem dX12_row_200 : decode cX12_row 200 = .ok (.iload 5, 2) := by decide +kernel
theorem dX12_row_202 : decode cX12_row 202 = .ok (.invokevirtual 180, 3) := by decide +kernel
theorem dX12_row_205 : decode cX12_row 205 = .ok (.iload 7, 2) := by decide +kernel
theorem dX12_row_207 : decode cX12_row 207 = .ok (.i2d, 1) := by decide +kernel
theorem dX12_row_208 : decode cX12_row 208 = .ok (.dmul, 1) := by decide +kernel
theorem dX12_row_209 : decode cX12_row 209 = .ok (.ldc2_w 184, 3) := by decide +kernel
theorem dX12_row_212 : decode cX12_row 212 = .ok (.ddiv, 1) := by decide +kernel
theorem dX12_row_213 : decode cX12_row 213 = .ok (.d2i, 1) := by decide +kernel
theorem dX12_row_214 : decode cX12_row 214 = .ok (.iconst 1, 1) := by decide +kernel
theorem dX12_row_215 : decode cX12_row 215 = .ok (.iadd, 1) := by decide +kernel
theorem dX12_row_216 : decode cX12_row 216 = .ok (.iastore, 1) := by decide +kernel
theorem dX12_row_217 : decode cX12_row 217 = .ok (.iinc 6 1, 3) := by decide +kernel
theorem dX12_row_220 : decode cX12_row 220 = .ok (.goto (-59), 3) := by decide +kernel
theorem dX12_row_131 : decode cX12_row 131 = .ok (.aload_n 0, 1) := by decide +kernel
theorem dX12_row_132 : decode cX12_row 132 = .ok (.getfield 29, 3) := by decide +kernel
theorem dX12_row_135 : decode cX12_row 135 = .ok (.iload 6, 2) := by decide +kernel
theorem dX12_row_137 : decode cX12_row 137 = .ok (.aload_n 0, 1) := by decide +kernel
theorem dX12_row_138 : decode cX12_row 138 = .ok (.iload 6, 2) := by decide +kernel
theorem dX12_row_140 : decode cX12_row 140 = .ok (.invokevirtual 177, 3) := by decide +kernel
theorem dX12_row_143 : decode cX12_row 143 = .ok (.bastore, 1) := by decide +kernel
theorem dX12_row_144 : decode cX12_row 144 = .ok (.iinc 6 1, 3) := by decide +kernel
theorem dX12_row_147 : decode cX12_row 147 = .ok (.goto (-23), 3) := by decide +kernel
theorem dX12_row_82 : decode cX12_row 82 = .ok (.aload_n 0, 1) := by decide +kernel
theorem dX12_row_83 : decode cX12_row 83 = .ok (.bipush (-4), 2) := by decide +kernel
theorem dX12_row_85 : decode cX12_row 85 = .ok (.invokevirtual 94, 3) := by decide +kernel
theorem dX12_row_88 : decode cX12_row 88 = .ok (.ireturn, 1) := by decide +kernel
theorem dX12_row_54 : decode cX12_row 54 = .ok (.aload_n 0, 1) := by decide +kernel
theorem dX12_row_55 : decode cX12_row 55 = .ok (.bipush (-3), 2) := by decide +kernel
theorem dX12_row_57 : decode cX12_row 57 = .ok (.invokevirtual 94, 3) := by decide +kernel
theorem dX12_row_60 : decode cX12_row 60 = .ok (.ireturn, 1) := by decide +kernel
theorem dX12_row_36 : decode cX12_row 36 = .ok (.aload_n 0, 1) := by decide +kernel
theorem dX12_row_37 : decode cX12_row 37 = .ok (.bipush (-2), 2) := by decide +kernel
theorem dX12_row_39 : decode cX12_row 39 = .ok (.invokevirtual 94, 3) := by decide +kernel
theorem dX12_row_42 : decode cX12_row 42 = .ok (.ireturn, 1) := by decide +kernel
theorem dX12_row_22 : decode cX12_row 22 = .ok (.aload_n 0, 1) := by decide +kernel
theorem dX12_row_23 : decode cX12_row 23 = .ok (.iconst (-1), 1) := by decide +kernel
theorem dX12_row_24 : decode cX12_row 24 = .ok (.invokevirtual 94, 3) := by decide +kernel
theorem dX12_row_27 : decode cX12_row 27 = .ok (.ireturn, 1) := by decide +kernel
def ms_X12_numberOf : List (Nat × Nat) := []
def po_X12_numberOf (kp : Nat → Nat) (L : List Nat) (f0 : Nat → va_E) (h0 : Nat) (u1 : Int32) (u2 : Int32) : Option Value → (Nat → va_E) → Prop := fun v f => (∃ r : UInt64, v = some (.double r)) ∧ FM kp L ms_X12_numberOf f0 f
set_option maxHeartbeats 4000000 in
set_option maxRecDepth 100000 in
theorem c_X12_numberOf (l : Launch) (G : va_G) (cI cJ cZ cD cR cT : ClassId) (kp : Nat → Nat) (L : List Nat) (f0 : Nat → va_E) (hTH : TH cI cJ cZ cD cR cT kp L f0) (sz : Nat) (h0 : Nat) (u1 : Int32) (u2 : Int32) (rh0 : RK kp L h0 12) (pu1 : (0 : Int) ≤ u1.toInt ∧ u1.toInt ≤ 99) (pu2 : (1 : Int) ≤ u2.toInt ∧ u2.toInt ≤ 100) : MetD lw_cs l yX12_numberOf (Cond.code yX12_numberOf cX12_numberOf 5 (some .double) :: wTab) ({ frames := 1, cells := 0, slots := 0, locals := 40 }) (va_Pc [.ref h0, .int u1, .int u2] (PreW G (tys6 cI cJ cZ cD cR cT) (va_pl L f0) sz)) (QT (po_X12_numberOf kp L f0 h0 u1 u2) G cI cJ cZ cD cR cT (va_A (va_pl L f0) sz) kp L) 0 0 (va_A (va_pl L f0) sz) := by
  refine metTD (by decide) (Nat.le_of_ble_eq_true rfl) hTH ?_
  intro p e s S m below meth c A ls E hdr hW hl
  obtain ⟨hx, hb, -, hml, hown, hts, -, -, -⟩ := id E
  have hF : FM kp L ms_X12_numberOf f0 f0 := FM.rf
  have hl : lv_has ls 5 [(0, .ref h0), (1, .int u1), (2, .int u2)] := hl
  obtain ⟨pR, mR⟩ : ∃ x : Nat, oR (f0 h0) 2 = x := ⟨_, rfl⟩
  have rR : RK kp L pR 822 := by rw [← mR]; exact th_ref hTH rh0 (by decide) (by decide) rfl
  refine lv_aload_n hx hb dX12_numberOf_0 rfl (lv_at hl 0 rfl) ?_
  refine fg_RX12_29 E hW rh0 dX12_numberOf_1 (fun a1 m2 r3 => ?_)
  refine lv_iload_n hx hb dX12_numberOf_4 rfl (lv_at hl 1 rfl) ?_
  refine gl_830 E hW r3 ⟨by omega, by omega⟩ dX12_numberOf_5 (fun y4 m5 b6 => ?_)
  refine q_if_eq (tgt := 16) hx hb dX12_numberOf_6 (by decide) rfl (fun c7 => ?_) (fun c7 => ?_)
  · refine lv_iload_n hx hb dX12_numberOf_16 rfl (lv_at hl 1 rfl) ?_
    refine lv_iconst (v := 1) hx hb dX12_numberOf_17 (by decide) ?_
    refine q_isub (Y := 1) hx hb dX12_numberOf_18 rfl rfl (by omega) (fun x8 h9 => ?_)
    refine lv_istore_n (lv' := [(3, .int x8), (0, .ref h0), (1, .int u1), (2, .int u2)]) hx hb dX12_numberOf_19 rfl hl (by decide) rfl (fun ls hl => ?_)
    have L24 : ∀ (n : Nat), ∀ (y22 : Int32) (b23 : (-1 : Int) ≤ y22.toInt ∧ y22.toInt ≤ 98) (hm : y22.toInt - (-2 : Int) ≤ n) (S : State) (E : EV G cI cJ cZ cD cR cT A cX12_numberOf (some .double) 5 yX12_numberOf.cls p S m ([.ref h0, .int u1, .int u2] : List Value).toArray meth c) (hdr : DR s S) (H : Heap) (locs : List Loc) (ls : Array Slot), WS G cI cJ cZ cD cR cT A kp L f0 S H locs → FM kp L ms_X12_numberOf f0 f0 → lv_has ls 5 [(3, .int y22), (0, .ref h0), (1, .int u1), (2, .int u2)] → W p l e ({ frames := 1, cells := 0, slots := 0, locals := 40 }) S m ([.ref h0, .int u1, .int u2] : List Value).toArray below meth c H locs 0 0 (MQD lw_cs below (QT (po_X12_numberOf kp L f0 h0 u1 u2) G cI cJ cZ cD cR cT A kp L) ([.ref h0, .int u1, .int u2] : List Value).toArray s 0 0 A) (F0 m 20 ls []) := by
      intro n
      induction n with
      | zero =>
        intro y22 b23 hm S E hdr H locs ls hW hF hl
        have hz := i32_b y22
        exfalso; omega
      | succ n ih =>
        intro y22 b23 hm S E hdr H locs ls hW hF hl
        obtain ⟨hx, hb, -, hml, hown, hts, -, -, -⟩ := id E
        have ih20 := ih
        refine lv_iload_n hx hb dX12_numberOf_20 rfl (lv_at hl 0 rfl) ?_
        have J34 : ∀ (S : State) (E : EV G cI cJ cZ cD cR cT A cX12_numberOf (some .double) 5 yX12_numberOf.cls p S m ([.ref h0, .int u1, .int u2] : List Value).toArray meth c) (hdr : DR s S) (H : Heap) (locs : List Loc) (ls : Array Slot), WS G cI cJ cZ cD cR cT A kp L f0 S H locs → FM kp L ms_X12_numberOf f0 f0 → lv_has ls 5 [(3, .int y22), (0, .ref h0), (1, .int u1), (2, .int u2)] → W p l e ({ frames := 1, cells := 0, slots := 0, locals := 40 }) S m ([.ref h0, .int u1, .int u2] : List Value).toArray below meth c H locs 0 0 (MQD lw_cs below (QT (po_X12_numberOf kp L f0 h0 u1 u2) G cI cJ cZ cD cR cT A kp L) ([.ref h0, .int u1, .int u2] : List Value).toArray s 0 0 A) (F0 m 39 ls []) := by
          intro  S E hdr H locs ls hW hF hl
          obtain ⟨hx, hb, -, hml, hown, hts, -, -, -⟩ := id E
          refine lv_iload_n hx hb dX12_numberOf_39 rfl (lv_at hl 2 rfl) ?_
          refine lv_iconst (v := 1) hx hb dX12_numberOf_40 (by decide) ?_
          refine q_iadd (Y := 1) hx hb dX12_numberOf_41 rfl rfl (by omega) (fun x35 h36 => ?_)
          refine lv_istore (lv' := [(4, .int x35), (3, .int y22), (0, .ref h0), (1, .int u1), (2, .int u2)]) hx hb dX12_numberOf_42 hl (by decide) rfl (fun ls hl => ?_)
          have L51 : ∀ (n : Nat), ∀ (y49 : Int32) (b50 : (1 : Int) ≤ y49.toInt ∧ y49.toInt ≤ 100) (hm : (101 : Int) - y49.toInt ≤ n) (S : State) (E : EV G cI cJ cZ cD cR cT A cX12_numberOf (some .double) 5 yX12_numberOf.cls p S m ([.ref h0, .int u1, .int u2] : List Value).toArray meth c) (hdr : DR s S) (H : Heap) (locs : List Loc) (ls : Array Slot), WS G cI cJ cZ cD cR cT A kp L f0 S H locs → FM kp L ms_X12_numberOf f0 f0 → lv_has ls 5 [(4, .int y49), (3, .int y22), (0, .ref h0), (1, .int u1), (2, .int u2)] → W p l e ({ frames := 1, cells := 0, slots := 0, locals := 40 }) S m ([.ref h0, .int u1, .int u2] : List Value).toArray below meth c H locs 0 0 (MQD lw_cs below (QT (po_X12_numberOf kp L f0 h0 u1 u2) G cI cJ cZ cD cR cT A kp L) ([.ref h0, .int u1, .int u2] : List Value).toArray s 0 0 A) (F0 m 44 ls []) := by
            intro n
            induction n with
            | zero =>
              intro y49 b50 hm S E hdr H locs ls hW hF hl
              have hz := i32_b y49
              exfalso; omega
            | succ n ih =>
              intro y49 b50 hm S E hdr H locs ls hW hF hl
              obtain ⟨hx, hb, -, hml, hown, hts, -, -, -⟩ := id E
              have ih44 := ih
              refine lv_iload hx hb dX12_numberOf_44 (lv_at hl 0 rfl) ?_
              refine lv_iload_n hx hb dX12_numberOf_46 rfl (lv_at hl 4 rfl) ?_
              have J61 : ∀ (S : State) (E : EV G cI cJ cZ cD cR cT A cX12_numberOf (some .double) 5 yX12_numberOf.cls p S m ([.ref h0, .int u1, .int u2] : List Value).toArray meth c) (hdr : DR s S) (H : Heap) (locs : List Loc) (ls : Array Slot), WS G cI cJ cZ cD cR cT A kp L f0 S H locs → FM kp L ms_X12_numberOf f0 f0 → lv_has ls 5 [(4, .int y49), (3, .int y22), (0, .ref h0), (1, .int u1), (2, .int u2)] → W p l e ({ frames := 1, cells := 0, slots := 0, locals := 40 }) S m ([.ref h0, .int u1, .int u2] : List Value).toArray below meth c H locs 0 0 (MQD lw_cs below (QT (po_X12_numberOf kp L f0 h0 u1 u2) G cI cJ cZ cD cR cT A kp L) ([.ref h0, .int u1, .int u2] : List Value).toArray s 0 0 A) (F0 m 66 ls []) := by
                intro  S E hdr H locs ls hW hF hl
                obtain ⟨hx, hb, -, hml, hown, hts, -, -, -⟩ := id E
                refine lv_iload_n hx hb dX12_numberOf_66 rfl (lv_at hl 1 rfl) ?_
                refine q_if_lt (tgt := 95) hx hb dX12_numberOf_67 (by decide) rfl (fun c62 => ?_) (fun c62 => ?_)
                · refine lv_iload_n hx hb dX12_numberOf_95 rfl (lv_at hl 1 rfl) ?_
                  have J70 : ∀ (d69 : UInt64) (S : State) (E : EV G cI cJ cZ cD cR cT A cX12_numberOf (some .double) 5 yX12_numberOf.cls p S m ([.ref h0, .int u1, .int u2] : List Value).toArray meth c) (hdr : DR s S) (H : Heap) (locs : List Loc) (ls : Array Slot), WS G cI cJ cZ cD cR cT A kp L f0 S H locs → FM kp L ms_X12_numberOf f0 f0 → lv_has ls 5 [(4, .int y49), (3, .int y22), (0, .ref h0), (1, .int u1), (2, .int u2)] → W p l e ({ frames := 1, cells := 0, slots := 0, locals := 40 }) S m ([.ref h0, .int u1, .int u2] : List Value).toArray below meth c H locs 0 0 (MQD lw_cs below (QT (po_X12_numberOf kp L f0 h0 u1 u2) G cI cJ cZ cD cR cT A kp L) ([.ref h0, .int u1, .int u2] : List Value).toArray s 0 0 A) (F0 m 125 ls [.double d69]) := by
                    intro d69 S E hdr H locs ls hW hF hl
                    obtain ⟨hx, hb, -, hml, hown, hts, -, -, -⟩ := id E
                    exact eD_D E hdr hW rfl ⟨⟨_, rfl⟩, hF⟩ dX12_numberOf_125
                  refine q_if_lt (tgt := 108) hx hb dX12_numberOf_96 (by decide) rfl (fun c71 => ?_) (fun c71 => ?_)
                  · refine lv_iload hx hb dX12_numberOf_108 (lv_at hl 0 rfl) ?_
                    refine lv_iload_n hx hb dX12_numberOf_110 rfl (lv_at hl 4 rfl) ?_
                    refine q_icmp_ge (tgt := 124) hx hb dX12_numberOf_111 (by decide) rfl rfl (fun c72 => ?_) (fun c72 => ?_)
                    · refine lv_dconst0 hx hb dX12_numberOf_124 (lv_topd (fun d73 _ => ?_))
                      exact J70 d73  S E hdr _ _ _ hW hF (lv_sub hl [0, 1, 2, 3, 4] rfl)
                    · refine lv_aload_n hx hb dX12_numberOf_114 rfl (lv_at hl 2 rfl) ?_
                      refine fg_RX12_25 E hW rh0 dX12_numberOf_115 (fun a74 m75 r76 => ?_)
                      refine lv_iload hx hb dX12_numberOf_118 (lv_at hl 0 rfl) ?_
                      refine gl_829 E hW r76 ⟨by omega, by omega⟩ dX12_numberOf_120 (fun d77 _ => ?_)
                      refine lv_goto (tgt := 125) hx hb dX12_numberOf_121 (by decide) ?_
                      exact J70 d77  S E hdr _ _ _ hW hF (lv_sub hl [0, 1, 2, 3, 4] rfl)
                  · exfalso; omega
                · refine lv_iload hx hb dX12_numberOf_70 (lv_at hl 0 rfl) ?_
                  refine lv_iload_n hx hb dX12_numberOf_72 rfl (lv_at hl 4 rfl) ?_
                  refine q_icmp_ge (tgt := 95) hx hb dX12_numberOf_73 (by decide) rfl rfl (fun c78 => ?_) (fun c78 => ?_)
                  · refine lv_iload_n hx hb dX12_numberOf_95 rfl (lv_at hl 1 rfl) ?_
                    refine q_if_lt (tgt := 108) hx hb dX12_numberOf_96 (by decide) rfl (fun c83 => ?_) (fun c83 => ?_)
                    · exfalso; omega
                    · refine lv_aload_n hx hb dX12_numberOf_99 rfl (lv_at hl 2 rfl) ?_
                      refine fg_RX12_25 E hW rh0 dX12_numberOf_100 (fun a84 m85 r86 => ?_)
                      refine lv_iload_n hx hb dX12_numberOf_103 rfl (lv_at hl 1 rfl) ?_
                      refine gl_829 E hW r86 ⟨by omega, by omega⟩ dX12_numberOf_104 (fun d87 _ => ?_)
                      refine lv_goto (tgt := 125) hx hb dX12_numberOf_105 (by decide) ?_
                      exact eD_D E hdr hW rfl ⟨⟨_, rfl⟩, hF⟩ dX12_numberOf_125
                  · refine lv_aload_n hx hb dX12_numberOf_76 rfl (lv_at hl 2 rfl) ?_
                    refine fg_RX12_25 E hW rh0 dX12_numberOf_77 (fun a88 m89 r90 => ?_)
                    refine lv_iload_n hx hb dX12_numberOf_80 rfl (lv_at hl 1 rfl) ?_
                    refine gl_829 E hW r90 ⟨by omega, by omega⟩ dX12_numberOf_81 (fun d91 _ => ?_)
                    refine lv_aload_n hx hb dX12_numberOf_82 rfl (lv_at hl 2 rfl) ?_
                    refine fg_RX12_25 E hW rh0 dX12_numberOf_83 (fun a92 m93 r94 => ?_)
                    obtain rfl : a88 = a92 := (m89).symm.trans m93
                    refine lv_iload hx hb dX12_numberOf_86 (lv_at hl 0 rfl) ?_
                    refine gl_829 E hW r90 ⟨by omega, by omega⟩ dX12_numberOf_88 (fun d95 _ => ?_)
                    refine dw_dadd E hdr hW dX12_numberOf_89 (fun d96 S E hdr hW => ?_)
                    obtain ⟨hx, hb, -, hml, hown, hts, -, -, -⟩ := id E
                    refine lv_ldc2d hx hb hown (hts _ tw_1734) dX12_numberOf_90 ?_
                    refine dw_ddiv E hdr hW dX12_numberOf_93 (fun d97 S E hdr hW => ?_)
                    obtain ⟨hx, hb, -, hml, hown, hts, -, -, -⟩ := id E
                    exact eD_D E hdr hW rfl ⟨⟨_, rfl⟩, hF⟩ dX12_numberOf_94
              refine q_icmp_ge (tgt := 66) hx hb dX12_numberOf_47 (by decide) rfl rfl (fun c98 => ?_) (fun c98 => ?_)
              · exact J61   S E hdr _ _ _ hW hF (lv_sub hl [0, 1, 2, 3, 4] rfl)
              · refine lv_aload_n hx hb dX12_numberOf_50 rfl (lv_at hl 2 rfl) ?_
                refine fg_RX12_29 E hW rh0 dX12_numberOf_51 (fun a99 m100 r101 => ?_)
                obtain rfl : a1 = a99 := (m2).symm.trans m100
                refine lv_iload hx hb dX12_numberOf_54 (lv_at hl 0 rfl) ?_
                refine gl_830 E hW r3 ⟨by omega, by omega⟩ dX12_numberOf_56 (fun y102 m103 b104 => ?_)
                refine q_if_ne (tgt := 66) hx hb dX12_numberOf_57 (by decide) rfl (fun c105 => ?_) (fun c105 => ?_)
                · exact J61   S E hdr _ _ _ hW hF (lv_sub hl [0, 1, 2, 3, 4] rfl)
                · refine q_iinc hx hb dX12_numberOf_60 hl (k := 0) rfl rfl rfl (by omega) (by decide) (fun i106 ls h107 hl => ?_)
                  have hl : lv_has ls 5 [(4, .int i106), (3, .int y22), (0, .ref h0), (1, .int u1), (2, .int u2)] := hl
                  refine lv_goto (tgt := 44) hx hb dX12_numberOf_63 (by decide) ?_
                  exact ih44 i106 (by omega) (by omega) S E hdr _ _ _ hW hF (lv_sub hl [0, 1, 2, 3, 4] rfl)
          exact L51 100 x35 (by omega) (by omega) S E hdr _ _ _ hW hF (lv_sub hl [0, 1, 2, 3, 4] rfl)
        refine q_if_lt (tgt := 39) hx hb dX12_numberOf_21 (by decide) rfl (fun c108 => ?_) (fun c108 => ?_)
        · exact J34   S E hdr _ _ _ hW hF (lv_sub hl [0, 1, 2, 3] rfl)
        · refine lv_aload_n hx hb dX12_numberOf_24 rfl (lv_at hl 1 rfl) ?_
          refine fg_RX12_29 E hW rh0 dX12_numberOf_25 (fun a109 m110 r111 => ?_)
          obtain rfl : a1 = a109 := (m2).symm.trans m110
          refine lv_iload_n hx hb dX12_numberOf_28 rfl (lv_at hl 0 rfl) ?_
          refine gl_830 E hW r3 ⟨by omega, by omega⟩ dX12_numberOf_29 (fun y112 m113 b114 => ?_)
          refine q_if_ne (tgt := 39) hx hb dX12_numberOf_30 (by decide) rfl (fun c115 => ?_) (fun c115 => ?_)
          · exact J34   S E hdr _ _ _ hW hF (lv_sub hl [0, 1, 2, 3] rfl)
          · refine q_iinc hx hb dX12_numberOf_33 hl (k := 0) rfl rfl rfl (by omega) (by decide) (fun i116 ls h117 hl => ?_)
            have hl : lv_has ls 5 [(3, .int i116), (0, .ref h0), (1, .int u1), (2, .int u2)] := hl
            refine lv_goto (tgt := 20) hx hb dX12_numberOf_36 (by decide) ?_
            exact ih20 i116 (by omega) (by omega) S E hdr _ _ _ hW hF (lv_sub hl [0, 1, 2, 3] rfl)
    exact L24 100 x8 (by omega) (by omega) S E hdr _ _ _ hW hF (lv_sub hl [0, 1, 2, 3] rfl)
  · refine lv_aload_n hx hb dX12_numberOf_9 rfl (lv_at hl 0 rfl) ?_
    refine fg_RX12_25 E hW rh0 dX12_numberOf_10 (fun a118 m119 r120 => ?_)
    refine lv_iload_n hx hb dX12_numberOf_13 rfl (lv_at hl 1 rfl) ?_
    refine gl_829 E hW r120 ⟨by omega, by omega⟩ dX12_numberOf_14 (fun d121 _ => ?_)
    exact eD_D E hdr hW rfl ⟨⟨_, rfl⟩, hF⟩ dX12_numberOf_15
def ms_X12_readFloat : List (Nat × Nat) := [(829, 0)]
def po_X12_readFloat (kp : Nat → Nat) (L : List Nat) (f0 : Nat → va_E) (h0 : Nat) (u1 : Int32) : Option Value → (Nat → va_E) → Prop := fun v f => (∃ r : Int32, v = some (.int r) ∧ ((0 : Int) ≤ r.toInt ∧ r.toInt ≤ 1)) ∧ FM kp L ms_X12_readFloat f0 f
set_option maxHeartbeats 4000000 in
set_option maxRecDepth 100000 in
theorem c_X12_readFloat (l : Launch) (G : va_G) (cI cJ cZ cD cR cT : ClassId) (kp : Nat → Nat) (L : List Nat) (f0 : Nat → va_E) (hTH : TH cI cJ cZ cD cR cT kp L f0) (sz : Nat) (h0 : Nat) (u1 : Int32) (rh0 : RK kp L h0 12) (pu1 : (0 : Int) ≤ u1.toInt ∧ u1.toInt ≤ 99) : MetD lw_cs l yX12_readFloat (Cond.code yX12_readFloat cX12_readFloat 8 (some .boolean) :: wTab) ({ frames := 1, cells := 0, slots := 0, locals := 40 }) (va_Pc [.ref h0, .int u1] (PreW G (tys6 cI cJ cZ cD cR cT) (va_pl L f0) sz)) (QT (po_X12_readFloat kp L f0 h0 u1) G cI cJ cZ cD cR cT (va_A (va_pl L f0) sz) kp L) 0 0 (va_A (va_pl L f0) sz) := by
  refine metTD (by decide) (Nat.le_of_ble_eq_true rfl) hTH ?_
  intro p e s S m below meth c A ls E hdr hW hl
  obtain ⟨hx, hb, -, hml, hown, hts, -, -, -⟩ := id E
  have hF : FM kp L ms_X12_readFloat f0 f0 := FM.rf
  have hl : lv_has ls 8 [(0, .ref h0), (1, .int u1)] := hl
  obtain ⟨pR, mR⟩ : ∃ x : Nat, oR (f0 h0) 2 = x := ⟨_, rfl⟩
  have rR : RK kp L pR 822 := by rw [← mR]; exact th_ref hTH rh0 (by decide) (by decide) rfl
  refine lv_aload_n hx hb dX12_readFloat_0 rfl (lv_at hl 0 rfl) ?_
  refine fg_RX12_32 E hW rh0 dX12_readFloat_1 (fun a1 m2 r3 => ?_)
  refine lv_iconst (v := 4) hx hb dX12_readFloat_4 (by decide) ?_
  refine lv_iload_n hx hb dX12_readFloat_5 rfl (lv_at hl 1 rfl) ?_
  refine q_imul (X := 4) hx hb dX12_readFloat_6 rfl rfl (by omega) (fun x4 h5 => ?_)
  refine gl_831 E hW r3 ⟨by omega, by omega⟩ dX12_readFloat_7 (fun y6 m7 => ?_)
  refine lv_bipush (v := 24) hx hb dX12_readFloat_8 (by decide) ?_
  refine u_ishl hx hb dX12_readFloat_10 (fun x9 => ?_)
  refine lv_aload_n hx hb dX12_readFloat_11 rfl (lv_at hl 0 rfl) ?_
  refine fg_RX12_32 E hW rh0 dX12_readFloat_12 (fun a10 m11 r12 => ?_)
  obtain rfl : a1 = a10 := (m2).symm.trans m11
  refine lv_iconst (v := 4) hx hb dX12_readFloat_15 (by decide) ?_
  refine lv_iload_n hx hb dX12_readFloat_16 rfl (lv_at hl 1 rfl) ?_
  refine q_imul (X := 4) hx hb dX12_readFloat_17 rfl rfl (by omega) (fun x13 h14 => ?_)
  refine lv_iconst (v := 1) hx hb dX12_readFloat_18 (by decide) ?_
  refine q_iadd (Y := 1) hx hb dX12_readFloat_19 rfl rfl (by omega) (fun x15 h16 => ?_)
  refine gl_831 E hW r3 ⟨by omega, by omega⟩ dX12_readFloat_20 (fun y17 m18 => ?_)
  refine lv_bipush (v := 16) hx hb dX12_readFloat_21 (by decide) ?_
  refine u_ishl hx hb dX12_readFloat_23 (fun x20 => ?_)
  refine u_ior hx hb dX12_readFloat_24 (fun x21 => ?_)
  refine lv_aload_n hx hb dX12_readFloat_25 rfl (lv_at hl 0 rfl) ?_
  refine fg_RX12_32 E hW rh0 dX12_readFloat_26 (fun a22 m23 r24 => ?_)
  obtain rfl : a1 = a22 := (m11).symm.trans m23
  refine lv_iconst (v := 4) hx hb dX12_readFloat_29 (by decide) ?_
  refine lv_iload_n hx hb dX12_readFloat_30 rfl (lv_at hl 1 rfl) ?_
  refine q_imul (X := 4) hx hb dX12_readFloat_31 rfl rfl (by omega) (fun x25 h26 => ?_)
  refine lv_iconst (v := 2) hx hb dX12_readFloat_32 (by decide) ?_
  refine q_iadd (Y := 2) hx hb dX12_readFloat_33 rfl rfl (by omega) (fun x27 h28 => ?_)
  refine gl_831 E hW r3 ⟨by omega, by omega⟩ dX12_readFloat_34 (fun y29 m30 => ?_)
  refine lv_bipush (v := 8) hx hb dX12_readFloat_35 (by decide) ?_
  refine u_ishl hx hb dX12_readFloat_37 (fun x32 => ?_)
  refine u_ior hx hb dX12_readFloat_38 (fun x33 => ?_)
  refine lv_aload_n hx hb dX12_readFloat_39 rfl (lv_at hl 0 rfl) ?_
  refine fg_RX12_32 E hW rh0 dX12_readFloat_40 (fun a34 m35 r36 => ?_)
  obtain rfl : a1 = a34 := (m23).symm.trans m35
  refine lv_iconst (v := 4) hx hb dX12_readFloat_43 (by decide) ?_
  refine lv_iload_n hx hb dX12_readFloat_44 rfl (lv_at hl 1 rfl) ?_
  refine q_imul (X := 4) hx hb dX12_readFloat_45 rfl rfl (by omega) (fun x37 h38 => ?_)
  refine lv_iconst (v := 3) hx hb dX12_readFloat_46 (by decide) ?_
  refine q_iadd (Y := 3) hx hb dX12_readFloat_47 rfl rfl (by omega) (fun x39 h40 => ?_)
  refine gl_831 E hW r3 ⟨by omega, by omega⟩ dX12_readFloat_48 (fun y41 m42 => ?_)
  refine u_ior hx hb dX12_readFloat_49 (fun x44 => ?_)
  refine lv_istore_n (lv' := [(2, .int x44), (0, .ref h0), (1, .int u1)]) hx hb dX12_readFloat_50 rfl hl (by decide) rfl (fun ls hl => ?_)
  refine lv_iload_n hx hb dX12_readFloat_51 rfl (lv_at hl 0 rfl) ?_
  refine lv_bipush (v := 23) hx hb dX12_readFloat_52 (by decide) ?_
  refine u_ishr hx hb dX12_readFloat_54 (fun x45 => ?_)
  refine lv_sipush (v := 255) hx hb dX12_readFloat_55 (by decide) ?_
  refine q_iand (M := 255) (k := 8) hx hb dX12_readFloat_58 (by decide) (by decide) (by decide) (fun x46 h47 => ?_)
  refine lv_istore_n (lv' := [(3, .int x46), (2, .int x44), (0, .ref h0), (1, .int u1)]) hx hb dX12_readFloat_59 rfl hl (by decide) rfl (fun ls hl => ?_)
  refine lv_iload_n hx hb dX12_readFloat_60 rfl (lv_at hl 0 rfl) ?_
  have J54 : ∀ (y53 : Int32) (S : State) (E : EV G cI cJ cZ cD cR cT A cX12_readFloat (some .boolean) 8 yX12_readFloat.cls p S m ([.ref h0, .int u1] : List Value).toArray meth c) (hdr : DR s S) (H : Heap) (locs : List Loc) (ls : Array Slot), WS G cI cJ cZ cD cR cT A kp L f0 S H locs → FM kp L ms_X12_readFloat f0 f0 → lv_has ls 8 [(3, .int x46), (2, .int x44), (0, .ref h0), (1, .int u1)] → W p l e ({ frames := 1, cells := 0, slots := 0, locals := 40 }) S m ([.ref h0, .int u1] : List Value).toArray below meth c H locs 0 0 (MQD lw_cs below (QT (po_X12_readFloat kp L f0 h0 u1) G cI cJ cZ cD cR cT A kp L) ([.ref h0, .int u1] : List Value).toArray s 0 0 A) (F0 m 78 ls [.int y53]) := by
    intro y53 S E hdr H locs ls hW hF hl
    obtain ⟨hx, hb, -, hml, hown, hts, -, -, -⟩ := id E
    refine lv_istore (lv' := [(4, .int y53), (3, .int x46), (2, .int x44), (0, .ref h0), (1, .int u1)]) hx hb dX12_readFloat_78 hl (by decide) rfl (fun ls hl => ?_)
    refine lv_aload_n hx hb dX12_readFloat_80 rfl (lv_at hl 3 rfl) ?_
    refine fg_RX12_25 E hW rh0 dX12_readFloat_81 (fun a55 m56 r57 => ?_)
    refine lv_iload_n hx hb dX12_readFloat_84 rfl (lv_at hl 4 rfl) ?_
    refine lv_dconst0 hx hb dX12_readFloat_85 (lv_topd (fun d58 _ => ?_))
    refine gs_829 E hW r57 ⟨by omega, by omega⟩ dX12_readFloat_86 (fun f59 H locs n61 g62 hW => ?_)
    have hF := FM.tr hF g62 rfl
    refine lv_iload_n hx hb dX12_readFloat_87 rfl (lv_at hl 1 rfl) ?_
    refine lv_sipush (v := 255) hx hb dX12_readFloat_88 (by decide) ?_
    refine q_icmp_eq (Y := 255) (tgt := 110) hx hb dX12_readFloat_91 (by decide) rfl rfl (fun c63 => ?_) (fun c63 => ?_)
    · refine lv_iconst (v := 0) hx hb dX12_readFloat_110 (by decide) ?_
      exact eD_Z E hdr hW rfl (by decide) ⟨⟨_, rfl, (by have hk : (0 : Int32).toInt = 0 := rfl; first | decide | omega)⟩, hF⟩ dX12_readFloat_111
    · refine lv_iload_n hx hb dX12_readFloat_94 rfl (lv_at hl 2 rfl) ?_
      refine q_if_ge (tgt := 103) hx hb dX12_readFloat_95 (by decide) rfl (fun c64 => ?_) (fun c64 => ?_)
      · refine lv_iload_n hx hb dX12_readFloat_103 rfl (lv_at hl 1 rfl) ?_
        refine lv_sipush (v := 136) hx hb dX12_readFloat_104 (by decide) ?_
        refine q_icmp_le (Y := 136) (tgt := 112) hx hb dX12_readFloat_107 (by decide) rfl rfl (fun c65 => ?_) (fun c65 => ?_)
        · refine lv_iload hx hb dX12_readFloat_112 (lv_at hl 0 rfl) ?_
          refine lv_i2d hx hb dX12_readFloat_114 (lv_topd (fun d66 _ => ?_))
          refine lv_dstore (lv' := [(5, .double d66), (4, .int y53), (3, .int x46), (2, .int x44), (0, .ref h0), (1, .int u1)]) hx hb dX12_readFloat_115 hl (by decide) rfl (fun ls hl => ?_)
          refine lv_iload_n hx hb dX12_readFloat_117 rfl (lv_at hl 2 rfl) ?_
          have J69 : ∀ (y67 : Int32) (b68 : (1 : Int) ≤ y67.toInt ∧ y67.toInt ≤ 136) (S : State) (E : EV G cI cJ cZ cD cR cT A cX12_readFloat (some .boolean) 8 yX12_readFloat.cls p S m ([.ref h0, .int u1] : List Value).toArray meth c) (hdr : DR s S) (H : Heap) (locs : List Loc) (ls : Array Slot), WS G cI cJ cZ cD cR cT A kp L f59 S H locs → FM kp L ms_X12_readFloat f0 f59 → lv_has ls 8 [(5, .double d66), (4, .int y53), (3, .int x46), (2, .int x44), (0, .ref h0), (1, .int u1)] → W p l e ({ frames := 1, cells := 0, slots := 0, locals := 40 }) S m ([.ref h0, .int u1] : List Value).toArray below meth c H locs 0 0 (MQD lw_cs below (QT (po_X12_readFloat kp L f0 h0 u1) G cI cJ cZ cD cR cT A kp L) ([.ref h0, .int u1] : List Value).toArray s 0 0 A) (F0 m 126 ls [.int y67]) := by
            intro y67 b68 S E hdr H locs ls hW hF hl
            obtain ⟨hx, hb, -, hml, hown, hts, -, -, -⟩ := id E
            refine lv_istore (lv' := [(7, .int y67), (5, .double d66), (4, .int y53), (3, .int x46), (2, .int x44), (0, .ref h0), (1, .int u1)]) hx hb dX12_readFloat_126 hl (by decide) rfl (fun ls hl => ?_)
            have L101 : ∀ (n : Nat), ∀ (y98 : Int32) (d100 : UInt64) (b99 : (1 : Int) ≤ y98.toInt ∧ y98.toInt ≤ 150) (hm : (151 : Int) - y98.toInt ≤ n) (S : State) (E : EV G cI cJ cZ cD cR cT A cX12_readFloat (some .boolean) 8 yX12_readFloat.cls p S m ([.ref h0, .int u1] : List Value).toArray meth c) (hdr : DR s S) (H : Heap) (locs : List Loc) (ls : Array Slot), WS G cI cJ cZ cD cR cT A kp L f59 S H locs → FM kp L ms_X12_readFloat f0 f59 → lv_has ls 8 [(7, .int y98), (5, .double d100), (4, .int y53), (3, .int x46), (2, .int x44), (0, .ref h0), (1, .int u1)] → W p l e ({ frames := 1, cells := 0, slots := 0, locals := 40 }) S m ([.ref h0, .int u1] : List Value).toArray below meth c H locs 0 0 (MQD lw_cs below (QT (po_X12_readFloat kp L f0 h0 u1) G cI cJ cZ cD cR cT A kp L) ([.ref h0, .int u1] : List Value).toArray s 0 0 A) (F0 m 128 ls []) := by
              intro n
              induction n with
              | zero =>
                intro y98 d100 b99 hm S E hdr H locs ls hW hF hl
                have hz := i32_b y98
                exfalso; omega
              | succ n ih =>
                intro y98 d100 b99 hm S E hdr H locs ls hW hF hl
                obtain ⟨hx, hb, -, hml, hown, hts, -, -, -⟩ := id E
                clear b68
                have ih128 := ih
                refine lv_iload hx hb dX12_readFloat_128 (lv_at hl 0 rfl) ?_
                refine lv_sipush (v := 150) hx hb dX12_readFloat_130 (by decide) ?_
                refine q_icmp_ge (Y := 150) (tgt := 150) hx hb dX12_readFloat_133 (by decide) rfl rfl (fun c105 => ?_) (fun c105 => ?_)
                · refine lv_aload_n hx hb dX12_readFloat_150 rfl (lv_at hl 5 rfl) ?_
                  refine fg_RX12_25 E hW rh0 dX12_readFloat_151 (fun a106 m107 r108 => ?_)
                  obtain rfl : a55 = a106 := (((fm_R g62 rh0 rfl).trans m56)).symm.trans m107
                  refine lv_iload_n hx hb dX12_readFloat_154 rfl (lv_at hl 6 rfl) ?_
                  refine lv_dload hx hb dX12_readFloat_155 (lv_at hl 1 rfl) ?_
                  refine gs_829 E hW r57 ⟨by omega, by omega⟩ dX12_readFloat_157 (fun f109 H locs n111 g112 hW => ?_)
                  have m113 : aI (f109 a1) (x4 : Int32).toNatClampNeg = y6 := ((congrArg (fun z => aI z (x4 : Int32).toNatClampNeg) (fm_A g112 r3 (by decide) rfl)).trans ((congrArg (fun z => aI z (x4 : Int32).toNatClampNeg) (fm_A g62 r3 (by decide) rfl)).trans m7))
                  have m114 : aI (f109 a1) (x15 : Int32).toNatClampNeg = y17 := ((congrArg (fun z => aI z (x15 : Int32).toNatClampNeg) (fm_A g112 r3 (by decide) rfl)).trans ((congrArg (fun z => aI z (x15 : Int32).toNatClampNeg) (fm_A g62 r3 (by decide) rfl)).trans m18))
                  have m115 : aI (f109 a1) (x27 : Int32).toNatClampNeg = y29 := ((congrArg (fun z => aI z (x27 : Int32).toNatClampNeg) (fm_A g112 r3 (by decide) rfl)).trans ((congrArg (fun z => aI z (x27 : Int32).toNatClampNeg) (fm_A g62 r3 (by decide) rfl)).trans m30))
                  have m116 : aI (f109 a1) (x39 : Int32).toNatClampNeg = y41 := ((congrArg (fun z => aI z (x39 : Int32).toNatClampNeg) (fm_A g112 r3 (by decide) rfl)).trans ((congrArg (fun z => aI z (x39 : Int32).toNatClampNeg) (fm_A g62 r3 (by decide) rfl)).trans m42))
                  have hF := FM.tr hF g112 rfl
                  refine lv_dload hx hb dX12_readFloat_158 (lv_at hl 1 rfl) ?_
                  refine lv_ldc2d hx hb hown (hts _ tw_1735) dX12_readFloat_160 ?_
                  have J119 : ∀ (y117 : Int32) (b118 : (0 : Int) ≤ y117.toInt ∧ y117.toInt ≤ 1) (S : State) (E : EV G cI cJ cZ cD cR cT A cX12_readFloat (some .boolean) 8 yX12_readFloat.cls p S m ([.ref h0, .int u1] : List Value).toArray meth c) (hdr : DR s S) (H : Heap) (locs : List Loc) (ls : Array Slot), WS G cI cJ cZ cD cR cT A kp L f109 S H locs → FM kp L ms_X12_readFloat f0 f109 → lv_has ls 8 [(7, .int y98), (5, .double d100), (4, .int y53), (3, .int x46), (2, .int x44), (0, .ref h0), (1, .int u1)] → W p l e ({ frames := 1, cells := 0, slots := 0, locals := 40 }) S m ([.ref h0, .int u1] : List Value).toArray below meth c H locs 0 0 (MQD lw_cs below (QT (po_X12_readFloat kp L f0 h0 u1) G cI cJ cZ cD cR cT A kp L) ([.ref h0, .int u1] : List Value).toArray s 0 0 A) (F0 m 172 ls [.int y117]) := by
                    intro y117 b118 S E hdr H locs ls hW hF hl
                    obtain ⟨hx, hb, -, hml, hown, hts, -, -, -⟩ := id E
                    exact eD_Z E hdr hW rfl (by omega) ⟨⟨_, rfl, (by first | omega | trivial)⟩, hF⟩ dX12_readFloat_172
                  refine u_dcmp_gt (tgt := 171) hx hb dX12_readFloat_163 dX12_readFloat_164 (by decide) ?_ ?_
                  · refine lv_iconst (v := 0) hx hb dX12_readFloat_171 (by decide) ?_
                    exact J119 0 (by decide) S E hdr _ _ _ hW hF (lv_sub hl [0, 1, 2, 3, 4, 5, 6] rfl)
                  · refine lv_iconst (v := 1) hx hb dX12_readFloat_167 (by decide) ?_
                    refine lv_goto (tgt := 172) hx hb dX12_readFloat_168 (by decide) ?_
                    exact J119 1 (by decide) S E hdr _ _ _ hW hF (lv_sub hl [0, 1, 2, 3, 4, 5, 6] rfl)
                · refine lv_dload hx hb dX12_readFloat_136 (lv_at hl 1 rfl) ?_
                  refine lv_ldc2d hx hb hown (hts _ tw_1734) dX12_readFloat_138 ?_
                  refine dw_ddiv E hdr hW dX12_readFloat_141 (fun d121 S E hdr hW => ?_)
                  obtain ⟨hx, hb, -, hml, hown, hts, -, -, -⟩ := id E
                  refine lv_dstore (lv' := [(5, .double d121), (7, .int y98), (4, .int y53), (3, .int x46), (2, .int x44), (0, .ref h0), (1, .int u1)]) hx hb dX12_readFloat_142 hl (by decide) rfl (fun ls hl => ?_)
                  refine q_iinc hx hb dX12_readFloat_144 hl (k := 1) rfl rfl rfl (by omega) (by decide) (fun i122 ls h123 hl => ?_)
                  have hl : lv_has ls 8 [(7, .int i122), (5, .double d121), (4, .int y53), (3, .int x46), (2, .int x44), (0, .ref h0), (1, .int u1)] := hl
                  refine lv_goto (tgt := 128) hx hb dX12_readFloat_147 (by decide) ?_
                  exact ih128 i122 d121 (by omega) (by omega) S E hdr _ _ _ hW hF (lv_sub hl [0, 1, 2, 3, 4, 5, 6] rfl)
            exact L101 150 y67 d66 (by omega) (by omega) S E hdr _ _ _ hW hF (lv_sub hl [0, 1, 2, 3, 4, 5, 6] rfl)
          refine q_if_ne (tgt := 125) hx hb dX12_readFloat_118 (by decide) rfl (fun c124 => ?_) (fun c124 => ?_)
          · refine lv_iload_n hx hb dX12_readFloat_125 rfl (lv_at hl 2 rfl) ?_
            exact J69 x46 (by omega) S E hdr _ _ _ hW hF (lv_sub hl [0, 1, 2, 3, 4, 5] rfl)
          · refine lv_iconst (v := 1) hx hb dX12_readFloat_121 (by decide) ?_
            refine lv_goto (tgt := 126) hx hb dX12_readFloat_122 (by decide) ?_
            exact J69 1 (by decide) S E hdr _ _ _ hW hF (lv_sub hl [0, 1, 2, 3, 4, 5] rfl)
        · refine lv_iconst (v := 0) hx hb dX12_readFloat_110 (by decide) ?_
          exact eD_Z E hdr hW rfl (by decide) ⟨⟨_, rfl, (by have hk : (0 : Int32).toInt = 0 := rfl; first | decide | omega)⟩, hF⟩ dX12_readFloat_111
      · refine lv_iload hx hb dX12_readFloat_98 (lv_at hl 0 rfl) ?_
        refine q_if_ne (tgt := 110) hx hb dX12_readFloat_100 (by decide) rfl (fun c125 => ?_) (fun c125 => ?_)
        · refine lv_iconst (v := 0) hx hb dX12_readFloat_110 (by decide) ?_
          exact eD_Z E hdr hW rfl (by decide) ⟨⟨_, rfl, (by have hk : (0 : Int32).toInt = 0 := rfl; first | decide | omega)⟩, hF⟩ dX12_readFloat_111
        · refine lv_iload_n hx hb dX12_readFloat_103 rfl (lv_at hl 1 rfl) ?_
          refine lv_sipush (v := 136) hx hb dX12_readFloat_104 (by decide) ?_
          refine q_icmp_le (Y := 136) (tgt := 112) hx hb dX12_readFloat_107 (by decide) rfl rfl (fun c126 => ?_) (fun c126 => ?_)
          · refine lv_iload hx hb dX12_readFloat_112 (lv_at hl 0 rfl) ?_
            refine lv_i2d hx hb dX12_readFloat_114 (lv_topd (fun d127 _ => ?_))
            refine lv_dstore (lv' := [(5, .double d127), (4, .int y53), (3, .int x46), (2, .int x44), (0, .ref h0), (1, .int u1)]) hx hb dX12_readFloat_115 hl (by decide) rfl (fun ls hl => ?_)
            refine lv_iload_n hx hb dX12_readFloat_117 rfl (lv_at hl 2 rfl) ?_
            have J130 : ∀ (y128 : Int32) (b129 : (1 : Int) ≤ y128.toInt ∧ y128.toInt ≤ 136) (S : State) (E : EV G cI cJ cZ cD cR cT A cX12_readFloat (some .boolean) 8 yX12_readFloat.cls p S m ([.ref h0, .int u1] : List Value).toArray meth c) (hdr : DR s S) (H : Heap) (locs : List Loc) (ls : Array Slot), WS G cI cJ cZ cD cR cT A kp L f59 S H locs → FM kp L ms_X12_readFloat f0 f59 → lv_has ls 8 [(5, .double d127), (4, .int y53), (3, .int x46), (2, .int x44), (0, .ref h0), (1, .int u1)] → W p l e ({ frames := 1, cells := 0, slots := 0, locals := 40 }) S m ([.ref h0, .int u1] : List Value).toArray below meth c H locs 0 0 (MQD lw_cs below (QT (po_X12_readFloat kp L f0 h0 u1) G cI cJ cZ cD cR cT A kp L) ([.ref h0, .int u1] : List Value).toArray s 0 0 A) (F0 m 126 ls [.int y128]) := by
              intro y128 b129 S E hdr H locs ls hW hF hl
              obtain ⟨hx, hb, -, hml, hown, hts, -, -, -⟩ := id E
              refine lv_istore (lv' := [(7, .int y128), (5, .double d127), (4, .int y53), (3, .int x46), (2, .int x44), (0, .ref h0), (1, .int u1)]) hx hb dX12_readFloat_126 hl (by decide) rfl (fun ls hl => ?_)
              have L162 : ∀ (n : Nat), ∀ (y159 : Int32) (d161 : UInt64) (b160 : (1 : Int) ≤ y159.toInt ∧ y159.toInt ≤ 150) (hm : (151 : Int) - y159.toInt ≤ n) (S : State) (E : EV G cI cJ cZ cD cR cT A cX12_readFloat (some .boolean) 8 yX12_readFloat.cls p S m ([.ref h0, .int u1] : List Value).toArray meth c) (hdr : DR s S) (H : Heap) (locs : List Loc) (ls : Array Slot), WS G cI cJ cZ cD cR cT A kp L f59 S H locs → FM kp L ms_X12_readFloat f0 f59 → lv_has ls 8 [(7, .int y159), (5, .double d161), (4, .int y53), (3, .int x46), (2, .int x44), (0, .ref h0), (1, .int u1)] → W p l e ({ frames := 1, cells := 0, slots := 0, locals := 40 }) S m ([.ref h0, .int u1] : List Value).toArray below meth c H locs 0 0 (MQD lw_cs below (QT (po_X12_readFloat kp L f0 h0 u1) G cI cJ cZ cD cR cT A kp L) ([.ref h0, .int u1] : List Value).toArray s 0 0 A) (F0 m 128 ls []) := by
                intro n
                induction n with
                | zero =>
                  intro y159 d161 b160 hm S E hdr H locs ls hW hF hl
                  have hz := i32_b y159
                  exfalso; omega
                | succ n ih =>
                  intro y159 d161 b160 hm S E hdr H locs ls hW hF hl
                  obtain ⟨hx, hb, -, hml, hown, hts, -, -, -⟩ := id E
                  clear b129
                  have ih128 := ih
                  refine lv_iload hx hb dX12_readFloat_128 (lv_at hl 0 rfl) ?_
                  refine lv_sipush (v := 150) hx hb dX12_readFloat_130 (by decide) ?_
                  refine q_icmp_ge (Y := 150) (tgt := 150) hx hb dX12_readFloat_133 (by decide) rfl rfl (fun c166 => ?_) (fun c166 => ?_)
                  · refine lv_aload_n hx hb dX12_readFloat_150 rfl (lv_at hl 5 rfl) ?_
                    refine fg_RX12_25 E hW rh0 dX12_readFloat_151 (fun a167 m168 r169 => ?_)
                    obtain rfl : a55 = a167 := (((fm_R g62 rh0 rfl).trans m56)).symm.trans m168
                    refine lv_iload_n hx hb dX12_readFloat_154 rfl (lv_at hl 6 rfl) ?_
                    refine lv_dload hx hb dX12_readFloat_155 (lv_at hl 1 rfl) ?_
                    refine gs_829 E hW r57 ⟨by omega, by omega⟩ dX12_readFloat_157 (fun f170 H locs n172 g173 hW => ?_)
                    have m174 : aI (f170 a1) (x4 : Int32).toNatClampNeg = y6 := ((congrArg (fun z => aI z (x4 : Int32).toNatClampNeg) (fm_A g173 r3 (by decide) rfl)).trans ((congrArg (fun z => aI z (x4 : Int32).toNatClampNeg) (fm_A g62 r3 (by decide) rfl)).trans m7))
                    have m175 : aI (f170 a1) (x15 : Int32).toNatClampNeg = y17 := ((congrArg (fun z => aI z (x15 : Int32).toNatClampNeg) (fm_A g173 r3 (by decide) rfl)).trans ((congrArg (fun z => aI z (x15 : Int32).toNatClampNeg) (fm_A g62 r3 (by decide) rfl)).trans m18))
                    have m176 : aI (f170 a1) (x27 : Int32).toNatClampNeg = y29 := ((congrArg (fun z => aI z (x27 : Int32).toNatClampNeg) (fm_A g173 r3 (by decide) rfl)).trans ((congrArg (fun z => aI z (x27 : Int32).toNatClampNeg) (fm_A g62 r3 (by decide) rfl)).trans m30))
                    have m177 : aI (f170 a1) (x39 : Int32).toNatClampNeg = y41 := ((congrArg (fun z => aI z (x39 : Int32).toNatClampNeg) (fm_A g173 r3 (by decide) rfl)).trans ((congrArg (fun z => aI z (x39 : Int32).toNatClampNeg) (fm_A g62 r3 (by decide) rfl)).trans m42))
                    have hF := FM.tr hF g173 rfl
                    refine lv_dload hx hb dX12_readFloat_158 (lv_at hl 1 rfl) ?_
                    refine lv_ldc2d hx hb hown (hts _ tw_1735) dX12_readFloat_160 ?_
                    have J180 : ∀ (y178 : Int32) (b179 : (0 : Int) ≤ y178.toInt ∧ y178.toInt ≤ 1) (S : State) (E : EV G cI cJ cZ cD cR cT A cX12_readFloat (some .boolean) 8 yX12_readFloat.cls p S m ([.ref h0, .int u1] : List Value).toArray meth c) (hdr : DR s S) (H : Heap) (locs : List Loc) (ls : Array Slot), WS G cI cJ cZ cD cR cT A kp L f170 S H locs → FM kp L ms_X12_readFloat f0 f170 → lv_has ls 8 [(7, .int y159), (5, .double d161), (4, .int y53), (3, .int x46), (2, .int x44), (0, .ref h0), (1, .int u1)] → W p l e ({ frames := 1, cells := 0, slots := 0, locals := 40 }) S m ([.ref h0, .int u1] : List Value).toArray below meth c H locs 0 0 (MQD lw_cs below (QT (po_X12_readFloat kp L f0 h0 u1) G cI cJ cZ cD cR cT A kp L) ([.ref h0, .int u1] : List Value).toArray s 0 0 A) (F0 m 172 ls [.int y178]) := by
                      intro y178 b179 S E hdr H locs ls hW hF hl
                      obtain ⟨hx, hb, -, hml, hown, hts, -, -, -⟩ := id E
                      exact eD_Z E hdr hW rfl (by omega) ⟨⟨_, rfl, (by first | omega | trivial)⟩, hF⟩ dX12_readFloat_172
                    refine u_dcmp_gt (tgt := 171) hx hb dX12_readFloat_163 dX12_readFloat_164 (by decide) ?_ ?_
                    · refine lv_iconst (v := 0) hx hb dX12_readFloat_171 (by decide) ?_
                      exact J180 0 (by decide) S E hdr _ _ _ hW hF (lv_sub hl [0, 1, 2, 3, 4, 5, 6] rfl)
                    · refine lv_iconst (v := 1) hx hb dX12_readFloat_167 (by decide) ?_
                      refine lv_goto (tgt := 172) hx hb dX12_readFloat_168 (by decide) ?_
                      exact J180 1 (by decide) S E hdr _ _ _ hW hF (lv_sub hl [0, 1, 2, 3, 4, 5, 6] rfl)
                  · refine lv_dload hx hb dX12_readFloat_136 (lv_at hl 1 rfl) ?_
                    refine lv_ldc2d hx hb hown (hts _ tw_1734) dX12_readFloat_138 ?_
                    refine dw_ddiv E hdr hW dX12_readFloat_141 (fun d182 S E hdr hW => ?_)
                    obtain ⟨hx, hb, -, hml, hown, hts, -, -, -⟩ := id E
                    refine lv_dstore (lv' := [(5, .double d182), (7, .int y159), (4, .int y53), (3, .int x46), (2, .int x44), (0, .ref h0), (1, .int u1)]) hx hb dX12_readFloat_142 hl (by decide) rfl (fun ls hl => ?_)
                    refine q_iinc hx hb dX12_readFloat_144 hl (k := 1) rfl rfl rfl (by omega) (by decide) (fun i183 ls h184 hl => ?_)
                    have hl : lv_has ls 8 [(7, .int i183), (5, .double d182), (4, .int y53), (3, .int x46), (2, .int x44), (0, .ref h0), (1, .int u1)] := hl
                    refine lv_goto (tgt := 128) hx hb dX12_readFloat_147 (by decide) ?_
                    exact ih128 i183 d182 (by omega) (by omega) S E hdr _ _ _ hW hF (lv_sub hl [0, 1, 2, 3, 4, 5, 6] rfl)
              exact L162 150 y128 d127 (by omega) (by omega) S E hdr _ _ _ hW hF (lv_sub hl [0, 1, 2, 3, 4, 5, 6] rfl)
            refine q_if_ne (tgt := 125) hx hb dX12_readFloat_118 (by decide) rfl (fun c185 => ?_) (fun c185 => ?_)
            · refine lv_iload_n hx hb dX12_readFloat_125 rfl (lv_at hl 2 rfl) ?_
              exact J130 x46 (by omega) S E hdr _ _ _ hW hF (lv_sub hl [0, 1, 2, 3, 4, 5] rfl)
            · refine lv_iconst (v := 1) hx hb dX12_readFloat_121 (by decide) ?_
              refine lv_goto (tgt := 126) hx hb dX12_readFloat_122 (by decide) ?_
              exact J130 1 (by decide) S E hdr _ _ _ hW hF (lv_sub hl [0, 1, 2, 3, 4, 5] rfl)
          · refine lv_iconst (v := 0) hx hb dX12_readFloat_110 (by decide) ?_
            exact eD_Z E hdr hW rfl (by decide) ⟨⟨_, rfl, (by have hk : (0 : Int32).toInt = 0 := rfl; first | decide | omega)⟩, hF⟩ dX12_readFloat_111
  refine q_if_ne (tgt := 71) hx hb dX12_readFloat_61 (by decide) rfl (fun c186 => ?_) (fun c186 => ?_)
  · refine lv_iload_n hx hb dX12_readFloat_71 rfl (lv_at hl 1 rfl) ?_
    refine lv_ldc (v := 8388607) hx hb hown (hts _ tw_1732) dX12_readFloat_72 ?_
    refine q_iand (M := 8388607) (k := 23) hx hb dX12_readFloat_74 (by decide) (by decide) (by decide) (fun x187 h188 => ?_)
    refine lv_ldc (v := 8388608) hx hb hown (hts _ tw_1733) dX12_readFloat_75 ?_
    refine u_ior hx hb dX12_readFloat_77 (fun x189 => ?_)
    exact J54 x189  S E hdr _ _ _ hW hF (lv_sub hl [0, 1, 2, 3] rfl)
  · refine lv_iload_n hx hb dX12_readFloat_64 rfl (lv_at hl 1 rfl) ?_
    refine lv_ldc (v := 8388607) hx hb hown (hts _ tw_1732) dX12_readFloat_65 ?_
    refine q_iand (M := 8388607) (k := 23) hx hb dX12_readFloat_67 (by decide) (by decide) (by decide) (fun x190 h191 => ?_)
    refine lv_goto (tgt := 78) hx hb dX12_readFloat_68 (by decide) ?_
    exact J54 x190  S E hdr _ _ _ hW hF (lv_sub hl [0, 1, 2, 3] rfl)
def rw_X12_row : List (Nat × Nat) := [(1582, 17981)]
def ms_X12_row : List (Nat × Nat) := [(12, 0), (12, 1), (12, 12), (822, 0), (829, 0), (830, 0)]
def po_X12_row (kp : Nat → Nat) (L : List Nat) (f0 : Nat → va_E) (h0 : Nat) (u1 : Int32) (u2 : Int32) : Option Value → (Nat → va_E) → Prop := fun v f => (∃ r : Int32, v = some (.int r) ∧ (True)) ∧ FM kp L ms_X12_row f0 f ∧ (RF rw_X12_row f0 f h0)
set_option maxHeartbeats 4000000 in
set_option maxRecDepth 100000 in
theorem c_X12_row (l : Launch) (G : va_G) (cI cJ cZ cD cR cT : ClassId) (kp : Nat → Nat) (L : List Nat) (f0 : Nat → va_E) (hTH : TH cI cJ cZ cD cR cT kp L f0) (sz : Nat) (h0 : Nat) (u1 : Int32) (u2 : Int32) (rh0 : RK kp L h0 12) : MetD lw_cs l yX12_row (Cond.code yX12_row cX12_row 8 (some .int) :: wTab) ({ frames := 3, cells := 0, slots := 0, locals := 86 }) (va_Pc [.ref h0, .int u1, .int u2] (PreW G (tys6 cI cJ cZ cD cR cT) (va_pl L f0) sz)) (QT (po_X12_row kp L f0 h0 u1 u2) G cI cJ cZ cD cR cT (va_A (va_pl L f0) sz) kp L) 0 0 (va_A (va_pl L f0) sz) := by
  refine metTD (by decide) (Nat.le_of_ble_eq_true rfl) hTH ?_
  intro p e s S m below meth c A ls E hdr hW hl
  obtain ⟨hx, hb, -, hml, hown, hts, -, -, -⟩ := id E
  have hF : FM kp L ms_X12_row f0 f0 := FM.rf
  have hl : lv_has ls 8 [(0, .ref h0), (1, .int u1), (2, .int u2)] := hl
  obtain ⟨pR, mR⟩ : ∃ x : Nat, oR (f0 h0) 2 = x := ⟨_, rfl⟩
  have rR : RK kp L pR 822 := by rw [← mR]; exact th_ref hTH rh0 (by decide) (by decide) rfl
  refine lv_aload_n hx hb dX12_row_0 rfl (lv_at hl 0 rfl) ?_
  refine lv_iconst (v := 0) hx hb dX12_row_1 (by decide) ?_
  refine fp_RX12_82 E hW rh0 dX12_row_2 (fun f1 H locs e2 n3 g4 hW => ?_)
  have z5 : RF rw_X12_row f0 f1 h0 := rf_fm hTH rf_rf g4 rh0 rfl
  have hF := FM.tr hF g4 rfl
  refine lv_aload_n hx hb dX12_row_5 rfl (lv_at hl 0 rfl) ?_
  refine fg_RX12_174 E hW rh0 dX12_row_6 (fun y6 m7 b8 => ?_)
  refine lv_istore_n (lv' := [(3, .int y6), (0, .ref h0), (1, .int u1), (2, .int u2)]) hx hb dX12_row_9 rfl hl (by decide) rfl (fun ls hl => ?_)
  refine lv_aload_n hx hb dX12_row_10 rfl (lv_at hl 1 rfl) ?_
  refine lv_iconst (v := 0) hx hb dX12_row_11 (by decide) ?_
  refine fp_RX12_174 E hW rh0 (by decide) dX12_row_12 (fun f9 H locs e10 n11 g12 hW => ?_)
  have z13 : RF rw_X12_row f0 f9 h0 := rf_fm hTH z5 g12 rh0 rfl
  have hF := FM.tr hF g12 rfl
  refine lv_iload_n hx hb dX12_row_15 rfl (lv_at hl 2 rfl) ?_
  refine t_callS (As := [.int u1]) (rest := []) E hW (c_X12_isWeek l G cI cJ cZ cD cR cT kp L f9 hW.2.2.2 _ u1) wk_X12_isWeek tw_1719 rfl ⟨Nat.le_of_ble_eq_true rfl, Nat.le_of_ble_eq_true rfl⟩ ⟨rfl, rfl⟩ hl.1 rfl (Nat.le_of_ble_eq_true rfl) dX12_row_16 ⟨Nat.le_of_ble_eq_true rfl, Nat.le_of_ble_eq_true rfl⟩ (fun v14 f15 H locs q16 hW => ?_)
  obtain ⟨⟨x18, rfl, p19⟩, g17⟩ := q16
  have z20 : RF rw_X12_row f0 f15 h0 := rf_fm hTH z13 g17 rh0 rfl
  have hF := FM.tr hF g17 rfl
  refine q_if_ne (tgt := 28) hx hb dX12_row_19 (by decide) rfl (fun c21 => ?_) (fun c21 => ?_)
  · have q22 : 0 ≤ u1.toInt ∧ u1.toInt ≤ 399 := by omega
    clear p19
    refine lv_aload_n hx hb dX12_row_28 rfl (lv_at hl 1 rfl) ?_
    refine lv_iload_n hx hb dX12_row_29 rfl (lv_at hl 3 rfl) ?_
    refine t_callV (As := [.int u2]) (rest := []) E hW (c_X12_isField l G cI cJ cZ cD cR cT kp L f15 hW.2.2.2 _ h0 u2 rh0) rh0 (by decide) rfl wk_X12_isField tw_1639 rfl ⟨Nat.le_of_ble_eq_true rfl, Nat.le_of_ble_eq_true rfl⟩ ⟨rfl, rfl⟩ hl.1 rfl (Nat.le_of_ble_eq_true rfl) dX12_row_30 ⟨Nat.le_of_ble_eq_true rfl, Nat.le_of_ble_eq_true rfl⟩ (fun v23 f24 H locs q25 hW => ?_)
    obtain ⟨⟨x27, rfl, p28⟩, g26⟩ := q25
    have z29 : RF rw_X12_row f0 f24 h0 := rf_fm hTH z20 g26 rh0 rfl
    have hF := FM.tr hF g26 rfl
    refine q_if_ne (tgt := 43) hx hb dX12_row_33 (by decide) rfl (fun c30 => ?_) (fun c30 => ?_)
    · have q31 : 0 ≤ u2.toInt ∧ u2.toInt ≤ 39 := by omega
      clear p28
      refine lv_iload_n hx hb dX12_row_43 rfl (lv_at hl 2 rfl) ?_
      refine lv_aload_n hx hb dX12_row_44 rfl (lv_at hl 1 rfl) ?_
      refine fg_RX12_8 E hW rh0 dX12_row_45 (fun a32 m33 r34 => ?_)
      obtain rfl : pR = a32 := (((fm_R g26 rh0 rfl).trans ((fm_R g17 rh0 rfl).trans ((fm_R g12 rh0 rfl).trans ((fm_R g4 rh0 rfl).trans mR))))).symm.trans m33
      refine lv_bipush (v := 8) hx hb dX12_row_48 (by decide) ?_
      refine gl_822 E hW rR (by decide) dX12_row_50 (fun y35 m36 b37 => ?_)
      have b38 := rr_8 (show RowInv _ from b37) m36 (by decide)
      refine q_icmp_ge (tgt := 61) hx hb dX12_row_51 (by decide) rfl rfl (fun c39 => ?_) (fun c39 => ?_)
      · refine lv_sipush (v := 1582) hx hb dX12_row_61 (by decide) ?_
        refine lv_bipush (v := 41) hx hb dX12_row_64 (by decide) ?_
        refine lv_iload_n hx hb dX12_row_66 rfl (lv_at hl 2 rfl) ?_
        refine q_imul (X := 41) hx hb dX12_row_67 rfl rfl (by omega) (fun x40 h41 => ?_)
        refine q_iadd (X := 1582) hx hb dX12_row_68 rfl rfl (by omega) (fun x42 h43 => ?_)
        refine lv_istore (lv' := [(4, .int x42), (3, .int y6), (0, .ref h0), (1, .int u1), (2, .int u2)]) hx hb dX12_row_69 hl (by decide) rfl (fun ls hl => ?_)
        refine lv_aload_n hx hb dX12_row_71 rfl (lv_at hl 2 rfl) ?_
        refine fg_RX12_8 E hW rh0 dX12_row_72 (fun a44 m45 r46 => ?_)
        obtain rfl : pR = a44 := (m33).symm.trans m45
        refine lv_iload hx hb dX12_row_75 (lv_at hl 0 rfl) ?_
        refine gl_822 E hW rR ⟨by omega, by omega⟩ dX12_row_77 (fun y47 m48 b49 => ?_)
        refine lv_iconst (v := 1) hx hb dX12_row_78 (by decide) ?_
        refine q_icmp_ne (Y := 1) (tgt := 89) hx hb dX12_row_79 (by decide) rfl rfl (fun c50 => ?_) (fun c50 => ?_)
        · refine lv_iload_n hx hb dX12_row_89 rfl (lv_at hl 1 rfl) ?_
          refine lv_iconst (v := 4) hx hb dX12_row_90 (by decide) ?_
          refine q_idiv (Y := 4) hx hb dX12_row_91 rfl rfl (by omega) (by omega) (fun x51 h52 => ?_)
          refine lv_istore (lv' := [(5, .int x51), (4, .int x42), (3, .int y6), (0, .ref h0), (1, .int u1), (2, .int u2)]) hx hb dX12_row_92 hl (by decide) rfl (fun ls hl => ?_)
          refine lv_iload_n hx hb dX12_row_94 rfl (lv_at hl 2 rfl) ?_
          refine q_if_eq (tgt := 114) hx hb dX12_row_95 (by decide) rfl (fun c53 => ?_) (fun c53 => ?_)
          · refine lv_aload_n hx hb dX12_row_114 rfl (lv_at hl 3 rfl) ?_
            refine lv_bipush (v := (-6)) hx hb dX12_row_115 (by decide) ?_
            refine t_callV (As := [.int (-6)]) (rest := []) E hW (c_X12_told l G cI cJ cZ cD cR cT kp L f24 hW.2.2.2 _ h0 (-6) rh0) rh0 (by decide) rfl wk_X12_told tw_1557 rfl ⟨Nat.le_of_ble_eq_true rfl, Nat.le_of_ble_eq_true rfl⟩ ⟨rfl, rfl⟩ hl.1 rfl (Nat.le_of_ble_eq_true rfl) dX12_row_117 ⟨Nat.le_of_ble_eq_true rfl, Nat.le_of_ble_eq_true rfl⟩ (fun v54 f55 H locs q56 hW => ?_)
            obtain ⟨⟨x58, rfl, p59⟩, g57⟩ := q56
            clear p59
            have z60 : RF rw_X12_row f0 f55 h0 := rf_fm hTH z29 g57 rh0 rfl
            have hF := FM.tr hF g57 rfl
            exact eD_I E hdr hW rfl ⟨⟨_, rfl, trivial⟩, hF, z60⟩ dX12_row_120
          · refine lv_iload_n hx hb dX12_row_98 rfl (lv_at hl 5 rfl) ?_
            refine lv_iload_n hx hb dX12_row_99 rfl (lv_at hl 2 rfl) ?_
            refine lv_iconst (v := 3) hx hb dX12_row_100 (by decide) ?_
            refine q_iadd (Y := 3) hx hb dX12_row_101 rfl rfl (by omega) (fun x61 h62 => ?_)
            refine lv_iconst (v := 4) hx hb dX12_row_102 (by decide) ?_
            refine q_idiv (Y := 4) hx hb dX12_row_103 rfl rfl (by omega) (by omega) (fun x63 h64 => ?_)
            refine q_iadd hx hb dX12_row_104 rfl rfl (by omega) (fun x65 h66 => ?_)
            refine lv_aload_n hx hb dX12_row_105 rfl (lv_at hl 3 rfl) ?_
            refine fg_RX12_8 E hW rh0 dX12_row_106 (fun a67 m68 r69 => ?_)
            obtain rfl : pR = a67 := (m45).symm.trans m68
            refine lv_iconst (v := 2) hx hb dX12_row_109 (by decide) ?_
            refine gl_822 E hW rR (by decide) dX12_row_110 (fun y70 m71 b72 => ?_)
            have b73 := rr_2 (show RowInv _ from b72) m71 (by decide)
            refine q_icmp_le (tgt := 121) hx hb dX12_row_111 (by decide) rfl rfl (fun c74 => ?_) (fun c74 => ?_)
            · refine lv_iconst (v := 0) hx hb dX12_row_121 (by decide) ?_
              refine lv_istore (lv' := [(6, .int 0), (5, .int x51), (4, .int x42), (3, .int y6), (0, .ref h0), (1, .int u1), (2, .int u2)]) hx hb dX12_row_122 hl (by decide) rfl (fun ls hl => ?_)
              have L948 : ∀ (n : Nat), ∀ (f939 : Nat → va_E) (y945 : Int32) (m940 : oI (f939 h0) 0 = 0) (m941 : oR (f939 h0) 2 = pR) (m942 : oI (f939 h0) 12 = 0) (m943 : aI (f939 pR) (8 : Int32).toNatClampNeg = y35) (m944 : aI (f939 pR) (2 : Int32).toNatClampNeg = y70) (b946 : (0 : Int) ≤ y945.toInt ∧ y945.toInt ≤ 100) (z947 : RF rw_X12_row f0 f939 h0) (hm : (101 : Int) - y945.toInt ≤ n) (S : State) (E : EV G cI cJ cZ cD cR cT A cX12_row (some .int) 8 yX12_row.cls p S m ([.ref h0, .int u1, .int u2] : List Value).toArray meth c) (hdr : DR s S) (H : Heap) (locs : List Loc) (ls : Array Slot), WS G cI cJ cZ cD cR cT A kp L f939 S H locs → FM kp L ms_X12_row f0 f939 → lv_has ls 8 [(6, .int y945), (5, .int x51), (4, .int x42), (3, .int y6), (0, .ref h0), (1, .int u1), (2, .int u2)] → W p l e ({ frames := 3, cells := 0, slots := 0, locals := 86 }) S m ([.ref h0, .int u1, .int u2] : List Value).toArray below meth c H locs 0 0 (MQD lw_cs below (QT (po_X12_row kp L f0 h0 u1 u2) G cI cJ cZ cD cR cT A kp L) ([.ref h0, .int u1, .int u2] : List Value).toArray s 0 0 A) (F0 m 124 ls []) := by
                intro n
                induction n with
                | zero =>
                  intro f939 y945 m940 m941 m942 m943 m944 b946 z947 hm S E hdr H locs ls hW hF hl
                  have hz := i32_b y945
                  exfalso; omega
                | succ n ih =>
                  intro f939 y945 m940 m941 m942 m943 m944 b946 z947 hm S E hdr H locs ls hW hF hl
                  obtain ⟨hx, hb, -, hml, hown, hts, -, -, -⟩ := id E
                  clear c21 c30 c50
                  have ih124 := ih
                  refine lv_iload hx hb dX12_row_124 (lv_at hl 0 rfl) ?_
                  refine lv_iload hx hb dX12_row_126 (lv_at hl 1 rfl) ?_
                  refine q_icmp_ge (tgt := 150) hx hb dX12_row_128 (by decide) rfl rfl (fun c966 => ?_) (fun c966 => ?_)
                  · refine lv_aload_n hx hb dX12_row_150 rfl (lv_at hl 4 rfl) ?_
                    refine fg_RX12_8 E hW rh0 dX12_row_151 (fun a967 m968 r969 => ?_)
                    obtain rfl : pR = a967 := (m941).symm.trans m968
                    refine lv_iload hx hb dX12_row_154 (lv_at hl 2 rfl) ?_
                    refine lv_iconst (v := 1) hx hb dX12_row_156 (by decide) ?_
                    have hk970 : (1 : Int32).toInt = 1 := rfl
                    refine gs_822 E hW rR ⟨by omega, by omega⟩ (fun hc => rr_up hc (by omega) (by omega) (by unfold rbI; omega)) dX12_row_157 (fun f971 H locs e972 n973 g974 hW => ?_)
                    have z975 : RF rw_X12_row f0 f971 h0 := rf_st (lo := 1582) (hi := 17941) z947 mR e972 (by omega) rfl
                    have hF := FM.tr hF g974 rfl
                    refine lv_iconst (v := 0) hx hb dX12_row_158 (by decide) ?_
                    refine lv_istore (lv' := [(6, .int 0), (5, .int x51), (4, .int x42), (3, .int y6), (0, .ref h0), (1, .int u1), (2, .int u2)]) hx hb dX12_row_159 hl (by decide) rfl (fun ls hl => ?_)
                    have L2713 : ∀ (n : Nat), ∀ (f2704 : Nat → va_E) (y2710 : Int32) (m2705 : oI (f2704 h0) 0 = 0) (m2706 : oR (f2704 h0) 2 = pR) (m2707 : oI (f2704 h0) 12 = 0) (m2708 : aI (f2704 pR) (8 : Int32).toNatClampNeg = y35) (m2709 : aI (f2704 pR) (2 : Int32).toNatClampNeg = y70) (b2711 : (0 : Int) ≤ y2710.toInt ∧ y2710.toInt ≤ 100) (z2712 : RF rw_X12_row f0 f2704 h0) (hm : (101 : Int) - y2710.toInt ≤ n) (S : State) (E : EV G cI cJ cZ cD cR cT A cX12_row (some .int) 8 yX12_row.cls p S m ([.ref h0, .int u1, .int u2] : List Value).toArray meth c) (hdr : DR s S) (H : Heap) (locs : List Loc) (ls : Array Slot), WS G cI cJ cZ cD cR cT A kp L f2704 S H locs → FM kp L ms_X12_row f0 f2704 → lv_has ls 8 [(6, .int y2710), (5, .int x51), (4, .int x42), (3, .int y6), (0, .ref h0), (1, .int u1), (2, .int u2)] → W p l e ({ frames := 3, cells := 0, slots := 0, locals := 86 }) S m ([.ref h0, .int u1, .int u2] : List Value).toArray below meth c H locs 0 0 (MQD lw_cs below (QT (po_X12_row kp L f0 h0 u1 u2) G cI cJ cZ cD cR cT A kp L) ([.ref h0, .int u1, .int u2] : List Value).toArray s 0 0 A) (F0 m 161 ls []) := by
                      intro n
                      induction n with
                      | zero =>
                        intro f2704 y2710 m2705 m2706 m2707 m2708 m2709 b2711 z2712 hm S E hdr H locs ls hW hF hl
                        have hz := i32_b y2710
                        exfalso; omega
                      | succ n ih =>
                        intro f2704 y2710 m2705 m2706 m2707 m2708 m2709 b2711 z2712 hm S E hdr H locs ls hW hF hl
                        obtain ⟨hx, hb, -, hml, hown, hts, -, -, -⟩ := id E
                        have ih161 := ih
                        refine lv_iload hx hb dX12_row_161 (lv_at hl 0 rfl) ?_
                        refine lv_iload hx hb dX12_row_163 (lv_at hl 1 rfl) ?_
                        refine q_icmp_ge (tgt := 223) hx hb dX12_row_165 (by decide) rfl rfl (fun c2758 => ?_) (fun c2758 => ?_)
                        · refine lv_aload_n hx hb dX12_row_223 rfl (lv_at hl 4 rfl) ?_
                          refine lv_iload hx hb dX12_row_224 (lv_at hl 1 rfl) ?_
                          refine t_callV (As := [.int x51]) (rest := []) E hW (c_X12_told l G cI cJ cZ cD cR cT kp L f2704 hW.2.2.2 _ h0 x51 rh0) rh0 (by decide) rfl wk_X12_told tw_1557 rfl ⟨Nat.le_of_ble_eq_true rfl, Nat.le_of_ble_eq_true rfl⟩ ⟨rfl, rfl⟩ hl.1 rfl (Nat.le_of_ble_eq_true rfl) dX12_row_226 ⟨Nat.le_of_ble_eq_true rfl, Nat.le_of_ble_eq_true rfl⟩ (fun v2759 f2760 H locs q2761 hW => ?_)
                          obtain ⟨⟨x2763, rfl, p2764⟩, g2762⟩ := q2761
                          clear p2764
                          have z2765 : RF rw_X12_row f0 f2760 h0 := rf_fm hTH z2712 g2762 rh0 rfl
                          have hF := FM.tr hF g2762 rfl
                          exact eD_I E hdr hW rfl ⟨⟨_, rfl, trivial⟩, hF, z2765⟩ dX12_row_229
                        · refine lv_aload_n hx hb dX12_row_168 rfl (lv_at hl 4 rfl) ?_
                          refine fg_RX12_8 E hW rh0 dX12_row_169 (fun a2766 m2767 r2768 => ?_)
                          obtain rfl : pR = a2766 := (m2706).symm.trans m2767
                          refine lv_iload_n hx hb dX12_row_172 rfl (lv_at hl 6 rfl) ?_
                          refine lv_iload hx hb dX12_row_173 (lv_at hl 0 rfl) ?_
                          refine q_iadd hx hb dX12_row_175 rfl rfl (by omega) (fun x2769 h2770 => ?_)
                          refine t_callS (As := [.int x2769]) (rest := [.ref pR]) E hW (c_X12_fieldAt l G cI cJ cZ cD cR cT kp L f2704 hW.2.2.2 _ x2769 (by omega)) wk_X12_fieldAt tw_1624 rfl ⟨Nat.le_of_ble_eq_true rfl, Nat.le_of_ble_eq_true rfl⟩ ⟨rfl, rfl⟩ hl.1 rfl (Nat.le_of_ble_eq_true rfl) dX12_row_176 ⟨Nat.le_of_ble_eq_true rfl, Nat.le_of_ble_eq_true rfl⟩ (fun v2771 f2772 H locs q2773 hW => ?_)
                          obtain ⟨⟨x2775, rfl, p2776⟩, g2774⟩ := q2773
                          have z2777 : RF rw_X12_row f0 f2772 h0 := rf_fm hTH z2712 g2774 rh0 rfl
                          have hF := FM.tr hF g2774 rfl
                          refine lv_iconst (v := 1) hx hb dX12_row_179 (by decide) ?_
                          refine q_iadd (Y := 1) hx hb dX12_row_180 rfl rfl (by omega) (fun x2778 h2779 => ?_)
                          refine gl_822 E hW rR ⟨by omega, by omega⟩ dX12_row_181 (fun y2780 m2781 b2782 => ?_)
                          refine lv_istore (lv' := [(7, .int y2780), (6, .int y2710), (5, .int x51), (4, .int x42), (3, .int y6), (0, .ref h0), (1, .int u1), (2, .int u2)]) hx hb dX12_row_182 hl (by decide) rfl (fun ls hl => ?_)
                          refine lv_aload_n hx hb dX12_row_184 rfl (lv_at hl 5 rfl) ?_
                          refine fg_RX12_8 E hW rh0 dX12_row_185 (fun a2783 m2784 r2785 => ?_)
                          obtain rfl : pR = a2783 := (((fm_R g2774 rh0 rfl).trans m2767)).symm.trans m2784
                          refine lv_iload hx hb dX12_row_188 (lv_at hl 3 rfl) ?_
                          refine lv_iconst (v := 1) hx hb dX12_row_190 (by decide) ?_
                          refine q_iadd (Y := 1) hx hb dX12_row_191 rfl rfl (by omega) (fun x2786 h2787 => ?_)
                          refine lv_iload_n hx hb dX12_row_192 rfl (lv_at hl 7 rfl) ?_
                          refine q_iadd hx hb dX12_row_193 rfl rfl (by omega) (fun x2788 h2789 => ?_)
                          refine lv_iload hx hb dX12_row_194 (lv_at hl 1 rfl) ?_
                          refine q_iadd hx hb dX12_row_196 rfl rfl (by omega) (fun x2790 h2791 => ?_)
                          refine lv_aload_n hx hb dX12_row_197 rfl (lv_at hl 5 rfl) ?_
                          refine lv_iload hx hb dX12_row_198 (lv_at hl 1 rfl) ?_
                          refine lv_iload hx hb dX12_row_200 (lv_at hl 2 rfl) ?_
                          refine t_callVD (As := [.int y2710, .int x51]) (rest := [.int x2790, .ref pR]) E hdr hW (c_X12_numberOf l G cI cJ cZ cD cR cT kp L f2772 hW.2.2.2 _ h0 y2710 x51 rh0 (by omega) (by omega)) rh0 (by decide) rfl wk_X12_numberOf tw_1736 rfl ⟨Nat.le_of_ble_eq_true rfl, Nat.le_of_ble_eq_true rfl⟩ ⟨rfl, rfl⟩ hl.1 rfl (Nat.le_of_ble_eq_true rfl) dX12_row_202 ⟨Nat.le_of_ble_eq_true rfl, Nat.le_of_ble_eq_true rfl⟩ (fun v2792 f2793 S H locs q2794 E hdr hW => ?_)
                          obtain ⟨hx, hb, -, hml, hown, hts, -, -, -⟩ := id E
                          obtain ⟨⟨d2796, rfl⟩, g2795⟩ := q2794
                          have m2797 : aI (f2793 pR) (8 : Int32).toNatClampNeg = y35 := ((congrArg (fun z => aI z (8 : Int32).toNatClampNeg) (fm_A g2795 rR (by decide) rfl)).trans ((congrArg (fun z => aI z (8 : Int32).toNatClampNeg) (fm_A g2774 rR (by decide) rfl)).trans m2708))
                          have m2798 : aI (f2793 pR) (2 : Int32).toNatClampNeg = y70 := ((congrArg (fun z => aI z (2 : Int32).toNatClampNeg) (fm_A g2795 rR (by decide) rfl)).trans ((congrArg (fun z => aI z (2 : Int32).toNatClampNeg) (fm_A g2774 rR (by decide) rfl)).trans m2709))
                          have z2799 : RF rw_X12_row f0 f2793 h0 := rf_fm hTH z2777 g2795 rh0 rfl
                          have hF := FM.tr hF g2795 rfl
                          refine lv_iload hx hb dX12_row_205 (lv_at hl 0 rfl) ?_
                          refine lv_i2d hx hb dX12_row_207 (lv_topd (fun d2800 _ => ?_))
                          refine dw_dmul E hdr hW dX12_row_208 (fun d2801 S E hdr hW => ?_)
                          obtain ⟨hx, hb, -, hml, hown, hts, -, -, -⟩ := id E
                          refine lv_ldc2d hx hb hown (hts _ tw_1740) dX12_row_209 ?_
                          refine dw_ddiv E hdr hW dX12_row_212 (fun d2802 S E hdr hW => ?_)
                          obtain ⟨hx, hb, -, hml, hown, hts, -, -, -⟩ := id E
                          refine lv_d2i hx hb dX12_row_213 (lv_topi (fun x2803 _ => ?_))
                          refine lv_iconst (v := 1) hx hb dX12_row_214 (by decide) ?_
                          refine u_iadd hx hb dX12_row_215 (fun x2804 => ?_)
                          refine gs_822 E hW rR ⟨by omega, by omega⟩ (fun hc => rr_up hc (by omega) (by omega) (by unfold rbI; omega)) dX12_row_216 (fun f2805 H locs e2806 n2807 g2808 hW => ?_)
                          have z2809 : RF rw_X12_row f0 f2805 h0 := rf_st (lo := 1583) (hi := 17981) z2799 mR e2806 (by omega) rfl
                          have hF := FM.tr hF g2808 rfl
                          refine q_iinc hx hb dX12_row_217 hl (k := 1) rfl rfl rfl (by omega) (by decide) (fun i2810 ls h2811 hl => ?_)
                          have hl : lv_has ls 8 [(6, .int i2810), (7, .int y2780), (5, .int x51), (4, .int x42), (3, .int y6), (0, .ref h0), (1, .int u1), (2, .int u2)] := hl
                          refine lv_goto (tgt := 161) hx hb dX12_row_220 (by decide) ?_
                          exact ih161 f2805 i2810 ((fm_I g2808 rh0 rfl).trans ((fm_I g2795 rh0 rfl).trans ((fm_I g2774 rh0 rfl).trans m2705))) ((fm_R g2808 rh0 rfl).trans ((fm_R g2795 rh0 rfl).trans m2784)) ((fm_I g2808 rh0 rfl).trans ((fm_I g2795 rh0 rfl).trans ((fm_I g2774 rh0 rfl).trans m2707))) (show aI (f2805 pR) (8 : Int32).toNatClampNeg = y35 from by rw [e2806, up_n (tn_ne (by omega) (by decide) (by have hk0 : (8 : Int32).toInt = 8 := rfl; omega))]; exact m2797) (show aI (f2805 pR) (2 : Int32).toNatClampNeg = y70 from by rw [e2806, up_n (tn_ne (by omega) (by decide) (by have hk0 : (2 : Int32).toInt = 2 := rfl; omega))]; exact m2798) (by omega) z2809 (by omega) S E hdr _ _ _ hW hF (lv_sub hl [0, 2, 3, 4, 5, 6, 7] rfl)
                    have hk2812 : (0 : Int32).toInt = 0 := rfl
                    exact L2713 101 f971 0 ((fm_I g974 rh0 rfl).trans m940) ((fm_R g974 rh0 rfl).trans m968) ((fm_I g974 rh0 rfl).trans m942) (show aI (f971 pR) (8 : Int32).toNatClampNeg = y35 from by rw [e972, up_n (tn_ne (by omega) (by decide) (by have hk0 : (8 : Int32).toInt = 8 := rfl; omega))]; exact m943) (show aI (f971 pR) (2 : Int32).toNatClampNeg = y70 from by rw [e972, up_n (tn_ne (by omega) (by decide) (by have hk0 : (2 : Int32).toInt = 2 := rfl; omega))]; exact m944) (by decide) z975 (by omega) S E hdr _ _ _ hW hF (lv_sub hl [0, 1, 2, 3, 4, 5, 6] rfl)
                  · refine lv_aload_n hx hb dX12_row_131 rfl (lv_at hl 4 rfl) ?_
                    refine fg_RX12_29 E hW rh0 dX12_row_132 (fun a2813 m2814 r2815 => ?_)
                    refine lv_iload hx hb dX12_row_135 (lv_at hl 0 rfl) ?_
                    refine lv_aload_n hx hb dX12_row_137 rfl (lv_at hl 4 rfl) ?_
                    refine lv_iload hx hb dX12_row_138 (lv_at hl 0 rfl) ?_
                    refine t_callVD (As := [.int y945]) (rest := [.int y945, .ref a2813]) E hdr hW (c_X12_readFloat l G cI cJ cZ cD cR cT kp L f939 hW.2.2.2 _ h0 y945 rh0 (by omega)) rh0 (by decide) rfl wk_X12_readFloat tw_1728 rfl ⟨Nat.le_of_ble_eq_true rfl, Nat.le_of_ble_eq_true rfl⟩ ⟨rfl, rfl⟩ hl.1 rfl (Nat.le_of_ble_eq_true rfl) dX12_row_140 ⟨Nat.le_of_ble_eq_true rfl, Nat.le_of_ble_eq_true rfl⟩ (fun v2816 f2817 S H locs q2818 E hdr hW => ?_)
                    obtain ⟨hx, hb, -, hml, hown, hts, -, -, -⟩ := id E
                    obtain ⟨⟨x2820, rfl, p2821⟩, g2819⟩ := q2818
                    have z2822 : RF rw_X12_row f0 f2817 h0 := rf_fm hTH z947 g2819 rh0 rfl
                    have hF := FM.tr hF g2819 rfl
                    refine gs_830 E hW r2815 ⟨by omega, by omega⟩ (by omega) dX12_row_143 (fun f2823 H locs e2824 n2825 g2826 hW => ?_)
                    have m2827 : aI (f2823 pR) (8 : Int32).toNatClampNeg = y35 := ((congrArg (fun z => aI z (8 : Int32).toNatClampNeg) (fm_A g2826 rR (by decide) rfl)).trans ((congrArg (fun z => aI z (8 : Int32).toNatClampNeg) (fm_A g2819 rR (by decide) rfl)).trans m943))
                    have m2828 : aI (f2823 pR) (2 : Int32).toNatClampNeg = y70 := ((congrArg (fun z => aI z (2 : Int32).toNatClampNeg) (fm_A g2826 rR (by decide) rfl)).trans ((congrArg (fun z => aI z (2 : Int32).toNatClampNeg) (fm_A g2819 rR (by decide) rfl)).trans m944))
                    have z2829 : RF rw_X12_row f0 f2823 h0 := rf_fm hTH z2822 g2826 rh0 rfl
                    have hF := FM.tr hF g2826 rfl
                    refine q_iinc hx hb dX12_row_144 hl (k := 0) rfl rfl rfl (by omega) (by decide) (fun i2830 ls h2831 hl => ?_)
                    have hl : lv_has ls 8 [(6, .int i2830), (5, .int x51), (4, .int x42), (3, .int y6), (0, .ref h0), (1, .int u1), (2, .int u2)] := hl
                    refine lv_goto (tgt := 124) hx hb dX12_row_147 (by decide) ?_
                    exact ih124 f2823 i2830 ((fm_I g2826 rh0 rfl).trans ((fm_I g2819 rh0 rfl).trans m940)) ((fm_R g2826 rh0 rfl).trans ((fm_R g2819 rh0 rfl).trans m941)) ((fm_I g2826 rh0 rfl).trans ((fm_I g2819 rh0 rfl).trans m942)) m2827 m2828 (by omega) z2829 (by omega) S E hdr _ _ _ hW hF (lv_sub hl [0, 1, 2, 3, 4, 5, 6] rfl)
              have hk2832 : (0 : Int32).toInt = 0 := rfl
              exact L948 101 f24 0 ((fm_I g26 rh0 rfl).trans ((fm_I g17 rh0 rfl).trans ((fm_I g12 rh0 rfl).trans e2))) m68 ((fm_I g26 rh0 rfl).trans ((fm_I g17 rh0 rfl).trans e10)) m36 m71 (by decide) z29 (by omega) S E hdr _ _ _ hW hF (lv_sub hl [0, 1, 2, 3, 4, 5, 6] rfl)
            · refine lv_aload_n hx hb dX12_row_114 rfl (lv_at hl 3 rfl) ?_
              refine lv_bipush (v := (-6)) hx hb dX12_row_115 (by decide) ?_
              refine t_callV (As := [.int (-6)]) (rest := []) E hW (c_X12_told l G cI cJ cZ cD cR cT kp L f24 hW.2.2.2 _ h0 (-6) rh0) rh0 (by decide) rfl wk_X12_told tw_1557 rfl ⟨Nat.le_of_ble_eq_true rfl, Nat.le_of_ble_eq_true rfl⟩ ⟨rfl, rfl⟩ hl.1 rfl (Nat.le_of_ble_eq_true rfl) dX12_row_117 ⟨Nat.le_of_ble_eq_true rfl, Nat.le_of_ble_eq_true rfl⟩ (fun v2833 f2834 H locs q2835 hW => ?_)
              obtain ⟨⟨x2837, rfl, p2838⟩, g2836⟩ := q2835
              clear p2838
              have z2839 : RF rw_X12_row f0 f2834 h0 := rf_fm hTH z29 g2836 rh0 rfl
              have hF := FM.tr hF g2836 rfl
              exact eD_I E hdr hW rfl ⟨⟨_, rfl, trivial⟩, hF, z2839⟩ dX12_row_120
        · refine lv_aload_n hx hb dX12_row_82 rfl (lv_at hl 2 rfl) ?_
          refine lv_bipush (v := (-4)) hx hb dX12_row_83 (by decide) ?_
          refine t_callV (As := [.int (-4)]) (rest := []) E hW (c_X12_told l G cI cJ cZ cD cR cT kp L f24 hW.2.2.2 _ h0 (-4) rh0) rh0 (by decide) rfl wk_X12_told tw_1557 rfl ⟨Nat.le_of_ble_eq_true rfl, Nat.le_of_ble_eq_true rfl⟩ ⟨rfl, rfl⟩ hl.1 rfl (Nat.le_of_ble_eq_true rfl) dX12_row_85 ⟨Nat.le_of_ble_eq_true rfl, Nat.le_of_ble_eq_true rfl⟩ (fun v2840 f2841 H locs q2842 hW => ?_)
          obtain ⟨⟨x2844, rfl, p2845⟩, g2843⟩ := q2842
          clear p2845
          have z2846 : RF rw_X12_row f0 f2841 h0 := rf_fm hTH z29 g2843 rh0 rfl
          have hF := FM.tr hF g2843 rfl
          exact eD_I E hdr hW rfl ⟨⟨_, rfl, trivial⟩, hF, z2846⟩ dX12_row_88
      · refine lv_aload_n hx hb dX12_row_54 rfl (lv_at hl 1 rfl) ?_
        refine lv_bipush (v := (-3)) hx hb dX12_row_55 (by decide) ?_
        refine t_callV (As := [.int (-3)]) (rest := []) E hW (c_X12_told l G cI cJ cZ cD cR cT kp L f24 hW.2.2.2 _ h0 (-3) rh0) rh0 (by decide) rfl wk_X12_told tw_1557 rfl ⟨Nat.le_of_ble_eq_true rfl, Nat.le_of_ble_eq_true rfl⟩ ⟨rfl, rfl⟩ hl.1 rfl (Nat.le_of_ble_eq_true rfl) dX12_row_57 ⟨Nat.le_of_ble_eq_true rfl, Nat.le_of_ble_eq_true rfl⟩ (fun v2847 f2848 H locs q2849 hW => ?_)
        obtain ⟨⟨x2851, rfl, p2852⟩, g2850⟩ := q2849
        clear p2852
        have z2853 : RF rw_X12_row f0 f2848 h0 := rf_fm hTH z29 g2850 rh0 rfl
        have hF := FM.tr hF g2850 rfl
        exact eD_I E hdr hW rfl ⟨⟨_, rfl, trivial⟩, hF, z2853⟩ dX12_row_60
    · clear p28
      refine lv_aload_n hx hb dX12_row_36 rfl (lv_at hl 1 rfl) ?_
      refine lv_bipush (v := (-2)) hx hb dX12_row_37 (by decide) ?_
      refine t_callV (As := [.int (-2)]) (rest := []) E hW (c_X12_told l G cI cJ cZ cD cR cT kp L f24 hW.2.2.2 _ h0 (-2) rh0) rh0 (by decide) rfl wk_X12_told tw_1557 rfl ⟨Nat.le_of_ble_eq_true rfl, Nat.le_of_ble_eq_true rfl⟩ ⟨rfl, rfl⟩ hl.1 rfl (Nat.le_of_ble_eq_true rfl) dX12_row_39 ⟨Nat.le_of_ble_eq_true rfl, Nat.le_of_ble_eq_true rfl⟩ (fun v2854 f2855 H locs q2856 hW => ?_)
      obtain ⟨⟨x2858, rfl, p2859⟩, g2857⟩ := q2856
      clear p2859
      have z2860 : RF rw_X12_row f0 f2855 h0 := rf_fm hTH z29 g2857 rh0 rfl
      have hF := FM.tr hF g2857 rfl
      exact eD_I E hdr hW rfl ⟨⟨_, rfl, trivial⟩, hF, z2860⟩ dX12_row_42
  · have q2861 : (u1.toInt < 0 ∨ 399 < u1.toInt) := by omega
    clear p19
    refine lv_aload_n hx hb dX12_row_22 rfl (lv_at hl 1 rfl) ?_
    refine lv_iconst (v := (-1)) hx hb dX12_row_23 (by decide) ?_
    refine t_callV (As := [.int (-1)]) (rest := []) E hW (c_X12_told l G cI cJ cZ cD cR cT kp L f15 hW.2.2.2 _ h0 (-1) rh0) rh0 (by decide) rfl wk_X12_told tw_1557 rfl ⟨Nat.le_of_ble_eq_true rfl, Nat.le_of_ble_eq_true rfl⟩ ⟨rfl, rfl⟩ hl.1 rfl (Nat.le_of_ble_eq_true rfl) dX12_row_24 ⟨Nat.le_of_ble_eq_true rfl, Nat.le_of_ble_eq_true rfl⟩ (fun v2862 f2863 H locs q2864 hW => ?_)
    obtain ⟨⟨x2866, rfl, p2867⟩, g2865⟩ := q2864
    clear p2867
    have z2868 : RF rw_X12_row f0 f2863 h0 := rf_fm hTH z20 g2865 rh0 rfl
    have hF := FM.tr hF g2865 rfl
    exact eD_I E hdr hW rfl ⟨⟨_, rfl, trivial⟩, hF, z2868⟩ dX12_row_27
