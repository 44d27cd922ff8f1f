theorem dX12_readText_0 : decode cX12_readText 0 = .ok (.aload_n 0, 1) := by decide +kernel
theorem dX12_readText_1 : decode cX12_readText 1 = .ok (.invokevirtual 376, 3) := by decide +kernel
theorem dX12_readText_4 : decode cX12_readText 4 = .ok (.aload_n 0, 1) := by decide +kernel
theorem dX12_readText_5 : decode cX12_readText 5 = .ok (.iconst 0, 1) := by decide +kernel
theorem dX12_readText_6 : decode cX12_readText 6 = .ok (.putfield 356, 3) := by decide +kernel
theorem dX12_readText_9 : decode cX12_readText 9 = .ok (.aload_n 0, 1) := by decide +kernel
theorem dX12_readText_10 : decode cX12_readText 10 = .ok (.iconst 0, 1) := by decide +kernel
theorem dX12_readText_11 : decode cX12_readText 11 = .ok (.putfield 229, 3) := by decide +kernel
theorem dX12_readText_14 : decode cX12_readText 14 = .ok (.aload_n 0, 1) := by decide +kernel
theorem dX12_readText_15 : decode cX12_readText 15 = .ok (.iconst 0, 1) := by decide +kernel
theorem dX12_readText_16 : decode cX12_readText 16 = .ok (.putfield 290, 3) := by decide +kernel
theorem dX12_readText_19 : decode cX12_readText 19 = .ok (.aload_n 0, 1) := by decide +kernel
theorem dX12_readText_20 : decode cX12_readText 20 = .ok (.invokevirtual 379, 3) := by decide +kernel
theorem dX12_readText_23 : decode cX12_readText 23 = .ok (.aload_n 0, 1) := by decide +kernel
theorem dX12_readText_24 : decode cX12_readText 24 = .ok (.getfield 193, 3) := by decide +kernel
theorem dX12_readText_27 : decode cX12_readText 27 = .ok (.ifCond .ne 23, 3) := by decide +kernel
theorem dX12_readText_50 : decode cX12_readText 50 = .ok (.aload_n 0, 1) := by decide +kernel
theorem dX12_readText_51 : decode cX12_readText 51 = .ok (.getfield 193, 3) := by decide +kernel
theorem dX12_readText_54 : decode cX12_readText 54 = .ok (.ifCond .ne 15, 3) := by decide +kernel
theorem dX12_readText_69 : decode cX12_readText 69 = .ok (.aload_n 0, 1) := by decide +kernel
theorem dX12_readText_70 : decode cX12_readText 70 = .ok (.getfield 193, 3) := by decide +kernel
theorem dX12_readText_73 : decode cX12_readText 73 = .ok (.ifCond .eq 5, 3) := by decide +kernel
theorem dX12_readText_76 : decode cX12_readText 76 = .ok (.iconst 0, 1) := by decide +kernel
theorem dX12_readText_77 : decode cX12_readText 77 = .ok (.ireturn, 1) := by decide +kernel
theorem dX12_readText_30 : decode cX12_readText 30 = .ok (.aload_n 0, 1) := by decide +kernel
theorem dX12_readText_31 : decode cX12_readText 31 = .ok (.bipush 59, 2) := by decide +kernel
theorem dX12_readText_33 : decode cX12_readText 33 = .ok (.invokevirtual 293, 3) := by decide +kernel
theorem dX12_readText_36 : decode cX12_readText 36 = .ok (.ifCond .eq 14, 3) := by decide +kernel
theorem dX12_readText_57 : decode cX12_readText 57 = .ok (.aload_n 0, 1) := by decide +kernel
theorem dX12_readText_58 : decode cX12_readText 58 = .ok (.getfield 212, 3) := by decide +kernel
theorem dX12_readText_61 : decode cX12_readText 61 = .ok (.ifCond .eq 8, 3) := by decide +kernel
theorem dX12_readText_78 : decode cX12_readText 78 = .ok (.aload_n 0, 1) := by decide +kernel
theorem dX12_readText_79 : decode cX12_readText 79 = .ok (.getfield 8, 3) := by decide +kernel
theorem dX12_readText_82 : decode cX12_readText 82 = .ok (.iconst 3, 1) := by decide +kernel
theorem dX12_readText_83 : decode cX12_readText 83 = .ok (.iaload, 1) := by decide +kernel
theorem dX12_readText_84 : decode cX12_readText 84 = .ok (.invokestatic 382, 3) := by decide +kernel
theorem dX12_readText_87 : decode cX12_readText 87 = .ok (.istore_n 2, 1) := by decide +kernel
theorem dX12_readText_88 : decode cX12_readText 88 = .ok (.aload_n 0, 1) := by decide +kernel
theorem dX12_readText_89 : decode cX12_readText 89 = .ok (.getfield 8, 3) := by decide +kernel
theorem dX12_readText_92 : decode cX12_readText 92 = .ok (.iload_n 2, 1) := by decide +kernel
theorem dX12_readText_93 : decode cX12_readText 93 = .ok (.iload_n 1, 1) := by decide +kernel
theorem dX12_readText_94 : decode cX12_readText 94 = .ok (.iastore, 1) := by decide +kernel
theorem dX12_readText_95 : decode cX12_readText 95 = .ok (.aload_n 0, 1) := by decide +kernel
theorem dX12_readText_96 : decode cX12_readText 96 = .ok (.getfield 8, 3) := by decide +kernel
theorem dX12_readText_99 : decode cX12_readText 99 = .ok (.iload_n 2, 1) := by decide +kernel
theorem dX12_readText_100 : decode cX12_readText 100 = .ok (.iconst 1, 1) := by decide +kernel
theorem dX12_readText_101 : decode cX12_readText 101 = .ok (.iadd, 1) := by decide +kernel
theorem dX12_readText_102 : decode cX12_readText 102 = .ok (.aload_n 0, 1) := by decide +kernel
theorem dX12_readText_103 : decode cX12_readText 103 = .ok (.getfield 356, 3) := by decide +kernel
theorem dX12_readText_106 : decode cX12_readText 106 = .ok (.iastore, 1) := by decide +kernel
theorem dX12_readText_107 : decode cX12_readText 107 = .ok (.iconst 0, 1) := by decide +kernel
theorem dX12_readText_108 : decode cX12_readText 108 = .ok (.istore_n 3, 1) := by decide +kernel
theorem dX12_readText_109 : decode cX12_readText 109 = .ok (.iload_n 3, 1) := by decide +kernel
theorem dX12_readText_110 : decode cX12_readText 110 = .ok (.bipush 8, 2) := by decide +kernel
theorem dX12_readText_112 : decode cX12_readText 112 = .ok (.aload_n 0, 1) := by decide +kernel
theorem dX12_readText_113 : decode cX12_readText 113 = .ok (.getfield 356, 3) := by decide +kernel
theorem dX12_readText_116 : decode cX12_readText 116 = .ok (.imul, 1) := by decide +kernel
theorem dX12_readText_117 : decode cX12_readText 117 = .ok (.if_icmp .ge 25, 3) := by decide +kernel
theorem dX12_readText_142 : decode cX12_readText 142 = .ok (.iconst 0, 1) := by decide +kernel
theorem dX12_readText_143 : decode cX12_readText 143 = .ok (.istore_n 3, 1) := by decide +kernel
theorem dX12_readText_144 : decode cX12_readText 144 = .ok (.iload_n 3, 1) := by decide +kernel
theorem dX12_readText_145 : decode cX12_readText 145 = .ok (.aload_n 0, 1) := by decide +kernel
theorem dX12_readText_146 : decode cX12_readText 146 = .ok (.getfield 229, 3) := by decide +kernel
theorem dX12_readText_149 : decode cX12_readText 149 = .ok (.if_icmp .ge 49, 3) := by decide +kernel
theorem dX12_readText_198 : decode cX12_readText 198 = .ok (.aload_n 0, 1) := by decide +kernel
theorem dX12_readText_199 : decode cX12_readText 199 = .ok (.getfield 8, 3) := by decide +kernel
theorem dX12_readText_202 : decode cX12_readText 202 = .ok (.iconst 3, 1) := by decide +kernel
theorem dX12_readText_203 : decode cX12_readText 203 = .ok (.dup2, 1) := by decide +kernel
theorem dX12_readText_204 : decode cX12_readText 204 = .ok (.iaload, 1) := by decide +kernel
theorem dX12_readText_205 : decode cX12_readText 205 = .ok (.iconst 1, 1) := by decide +kernel
theorem dX12_readText_206 : decode cX12_readText 206 = .ok (.iadd, 1) := by decide +kernel
theorem dX12_readText_207 : decode cX12_readText 207 = .ok (.iastore, 1) := by decide +kernel
theorem dX12_readText_208 : decode cX12_readText 208 = .ok (.iconst 1, 1) := by decide +kernel
theorem dX12_readText_209 : decode cX12_readText 209 = .ok (.ireturn, 1) := by decide +kernel
theorem dX12_readText_152 : decode cX12_readText 152 = .ok (.aload_n 0, 1) := by decide +kernel
theorem dX12_readText_153 : decode cX12_readText 153 = .ok (.getfield 8, 3) := by decide +kernel
theorem dX12_readText_156 : decode cX12_readText 156 = .ok (.iload_n 2, 1) := by decide +kernel
theorem dX12_readText_157 : decode cX12_readText 157 = .ok (.bipush 98, 2) := by decide +kernel
theorem dX12_readText_159 : decode cX12_readText 159 = .ok (.iadd, 1) := by decide +kernel
theorem dX12_readText_160 : decode cX12_readText 160 = .ok (.iconst 2, 1) := by decide +kernel
theorem dX12_readText_161 : decode cX12_readText 161 = .ok (.iload_n 3, 1) := by decide +kernel
theorem dX12_readText_162 : decode cX12_readText 162 = .ok (.imul, 1) := by decide +kernel
theorem dX12_readText_163 : decode cX12_readText 163 = .ok (.iadd, 1) := by decide +kernel
theorem dX12_readText_164 : decode cX12_readText 164 = .ok (.aload_n 0, 1) := by decide +kernel
theorem dX12_readText_165 : decode cX12_readText 165 = .ok (.getfield 42, 3) := by decide +kernel
theorem dX12_readText_168 : decode cX12_readText 168 = .ok (.iload_n 3, 1) := by decide +kernel
theorem dX12_readText_169 : decode cX12_readText 169 = .ok (.iaload, 1) := by decide +kernel
theorem dX12_readText_170 : decode cX12_readText 170 = .ok (.iastore, 1) := by decide +kernel
theorem dX12_readText_171 : decode cX12_readText 171 = .ok (.aload_n 0, 1) := by decide +kernel
theorem dX12_readText_172 : decode cX12_readText 172 = .ok (.getfield 8, 3) := by decide +kernel
theorem dX12_readText_175 : decode cX12_readText 175 = .ok (.iload_n 2, 1) := by decide +kernel
theorem dX12_readText_176 : decode cX12_readText 176 = .ok (.bipush 98, 2) := by decide +kernel
theorem dX12_readText_178 : decode cX12_readText 178 = .ok (.iadd, 1) := by decide +kernel
theorem dX12_readText_179 : decode cX12_readText 179 = .ok (.iconst 2, 1) := by decide +kernel
theorem dX12_readText_180 : decode cX12_readText 180 = .ok (.iload_n 3, 1) := by decide +kernel
theorem dX12_readText_181 : decode cX12_readText 181 = .ok (.imul, 1) := by decide +kernel
theorem dX12_readText_182 : decode cX12_readText 182 = .ok (.iadd, 1) := by decide +kernel
theorem dX12_readText_183 : decode cX12_readText 183 = .ok (.iconst 1, 1) := by decide +kernel
theorem dX12_readText_184 : decode cX12_readText 184 = .ok (.iadd, 1) := by decide +kernel
theorem dX12_readText_185 : decode cX12_readText 185 = .ok (.aload_n 0, 1) := by decide +kernel
theorem dX12_readText_186 : decode cX12_readText 186 = .ok (.getfield 45, 3) := by decide +kernel
theorem dX12_readText_189 : decode cX12_readText 189 = .ok (.iload_n 3, 1) := by decide +kernel
theorem dX12_readText_190 : decode cX12_readText 190 = .ok (.iaload, 1) := by decide +kernel
theorem dX12_readText_191 : decode cX12_readText 191 = .ok (.iastore, 1) := by decide +kernel
theorem dX12_readText_192 : decode cX12_readText 192 = .ok (.iinc 3 1, 3) := by decide +kernel
theorem dX12_readText_195 : decode cX12_readText 195 = .ok (.goto (-51), 3) := by decide +kernel
theorem dX12_readText_120 : decode cX12_readText 120 = .ok (.aload_n 0, 1) := by decide +kernel
theorem dX12_readText_121 : decode cX12_readText 121 = .ok (.getfield 8, 3) := by decide +kernel
theorem dX12_readText_124 : decode cX12_readText 124 = .ok (.iload_n 2, 1) := by decide +kernel
theorem dX12_readText_125 : decode cX12_readText 125 = .ok (.iconst 2, 1) := by decide +kernel
theorem dX12_readText_126 : decode cX12_readText 126 = .ok (.iadd, 1) := by decide +kernel
theorem dX12_readText_127 : decode cX12_readText 127 = .ok (.iload_n 3, 1) := by decide +kernel
theorem dX12_readText_128 : decode cX12_readText 128 = .ok (.iadd, 1) := by decide +kernel
theorem dX12_readText_129 : decode cX12_readText 129 = .ok (.aload_n 0, 1) := by decide +kernel
theorem dX12_readText_130 : decode cX12_readText 130 = .ok (.getfield 39, 3) := by decide +kernel
theorem dX12_readText_133 : decode cX12_readText 133 = .ok (.iload_n 3, 1) := by decide +kernel
theorem dX12_readText_134 : decode cX12_readText 134 = .ok (.iaload, 1) := by decide +kernel
theorem dX12_readText_135 : decode cX12_readText 135 = .ok (.iastore, 1) := by decide +kernel
theorem dX12_readText_136 : decode cX12_readText 136 = .ok (.iinc 3 1, 3) := by decide +kernel
theorem dX12_readText_139 : decode cX12_readText 139 = .ok (.goto (-30), 3) := by decide +kernel
theorem dX12_readText_64 : decode cX12_readText 64 = .ok (.aload_n 0, 1) := by decide +kernel
theorem dX12_readText_65 : decode cX12_readText 65 = .ok (.iconst 0, 1) := by decide +kernel
theorem dX12_readText_66 : decode cX12_readText 66 = .ok (.invokevirtual 225, 3) := by decide +kernel
theorem dX12_readText_39 : decode cX12_readText 39 = .ok (.aload_n 0, 1) := by decide +kernel
theorem dX12_readText_40 : decode cX12_readText 40 = .ok (.invokevirtual 196, 3) := by decide +kernel
theorem dX12_readText_43 : decode cX12_readText 43 = .ok (.aload_n 0, 1) := by decide +kernel
theorem dX12_readText_44 : decode cX12_readText 44 = .ok (.invokevirtual 379, 3) := by decide +kernel
theorem dX12_readText_47 : decode cX12_readText 47 = .ok (.goto (-24), 3) := by decide +kernel
theorem dX12_text_0 : decode cX12_text 0 = .ok (.aload_n 0, 1) := by decide +kernel
theorem dX12_text_1 : decode cX12_text 1 = .ok (.iconst 0, 1) := by decide +kernel
theorem dX12_text_2 : decode cX12_text 2 = .ok (.putfield 82, 3) := by decide +kernel
theorem dX12_text_5 : decode cX12_text 5 = .ok (.iload_n 1, 1) := by decide +kernel
theorem dX12_text_6 : decode cX12_text 6 = .ok (.invokestatic 156, 3) := by decide +kernel
theorem dX12_text_9 : decode cX12_text 9 = .ok (.ifCond .eq 14, 3) := by decide +kernel
theorem dX12_text_23 : decode cX12_text 23 = .ok (.aload_n 0, 1) := by decide +kernel
theorem dX12_text_24 : decode cX12_text 24 = .ok (.iconst 0, 1) := by decide +kernel
theorem dX12_text_25 : decode cX12_text 25 = .ok (.putfield 174, 3) := by decide +kernel
theorem dX12_text_28 : decode cX12_text 28 = .ok (.aload_n 0, 1) := by decide +kernel
theorem dX12_text_29 : decode cX12_text 29 = .ok (.iload_n 1, 1) := by decide +kernel
theorem dX12_text_30 : decode cX12_text 30 = .ok (.invokestatic 156, 3) := by decide +kernel
theorem dX12_text_33 : decode cX12_text 33 = .ok (.ifCond .eq 8, 3) := by decide +kernel
theorem dX12_text_41 : decode cX12_text 41 = .ok (.iconst (-1), 1) := by decide +kernel
theorem dX12_text_42 : decode cX12_text 42 = .ok (.invokevirtual 94, 3) := by decide +kernel
theorem dX12_text_45 : decode cX12_text 45 = .ok (.ireturn, 1) := by decide +kernel
theorem dX12_text_36 : decode cX12_text 36 = .ok (.bipush (-5), 2) := by decide +kernel
theorem dX12_text_38 : decode cX12_text 38 = .ok (.goto 4, 3) := by decide +kernel
theorem dX12_text_12 : decode cX12_text 12 = .ok (.aload_n 0, 1) := by decide +kernel
theorem dX12_text_13 : decode cX12_text 13 = .ok (.getfield 8, 3) := by decide +kernel
theorem dX12_text_16 : decode cX12_text 16 = .ok (.iconst 3, 1) := by decide +kernel
theorem dX12_text_17 : decode cX12_text 17 = .ok (.iaload, 1) := by decide +kernel
theorem dX12_text_18 : decode cX12_text 18 = .ok (.bipush 20, 2) := by decide +kernel
theorem dX12_text_20 : decode cX12_text 20 = .ok (.if_icmp .ne 26, 3) := by decide +kernel
theorem dX12_text_46 : decode cX12_text 46 = .ok (.aload_n 0, 1) := by decide +kernel
theorem dX12_text_47 : decode cX12_text 47 = .ok (.iload_n 1, 1) := by decide +kernel
theorem dX12_text_48 : decode cX12_text 48 = .ok (.invokevirtual 385, 3) := by decide +kernel
theorem dX12_text_51 : decode cX12_text 51 = .ok (.istore_n 2, 1) := by decide +kernel
theorem dX12_text_52 : decode cX12_text 52 = .ok (.aload_n 0, 1) := by decide +kernel
theorem dX12_text_53 : decode cX12_text 53 = .ok (.iconst 0, 1) := by decide +kernel
theorem dX12_text_54 : decode cX12_text 54 = .ok (.putfield 174, 3) := by decide +kernel
theorem dX12_text_57 : decode cX12_text 57 = .ok (.aload_n 0, 1) := by decide +kernel
theorem dX12_text_58 : decode cX12_text 58 = .ok (.iload_n 2, 1) := by decide +kernel
theorem dX12_text_59 : decode cX12_text 59 = .ok (.ifCond .eq 14, 3) := by decide +kernel
theorem dX12_text_73 : decode cX12_text 73 = .ok (.bipush (-6), 2) := by decide +kernel
theorem dX12_text_75 : decode cX12_text 75 = .ok (.invokevirtual 94, 3) := by decide +kernel
theorem dX12_text_78 : decode cX12_text 78 = .ok (.ireturn, 1) := by decide +kernel
theorem dX12_text_62 : decode cX12_text 62 = .ok (.aload_n 0, 1) := by decide +kernel
theorem dX12_text_63 : decode cX12_text 63 = .ok (.getfield 8, 3) := by decide +kernel
theorem dX12_text_66 : decode cX12_text 66 = .ok (.iconst 3, 1) := by decide +kernel
theorem dX12_text_67 : decode cX12_text 67 = .ok (.iaload, 1) := by decide +kernel
theorem dX12_text_68 : decode cX12_text 68 = .ok (.iconst 1, 1) := by decide +kernel
theorem dX12_text_69 : decode cX12_text 69 = .ok (.isub, 1) := by decide +kernel
theorem dX12_text_70 : decode cX12_text 70 = .ok (.goto 5, 3) := by decide +kernel
theorem dX12_beside_0 : decode cX12_beside 0 = .ok (.aload_n 0, 1) := by decide +kernel
theorem dX12_beside_1 : decode cX12_beside 1 = .ok (.iconst 0, 1) := by decide +kernel
theorem dX12_beside_2 : decode cX12_beside 2 = .ok (.putfield 82, 3) := by decide +kernel
theorem dX12_beside_5 : decode cX12_beside 5 = .ok (.aload_n 0, 1) := by decide +kernel
theorem dX12_beside_6 : decode cX12_beside 6 = .ok (.iload_n 1, 1) := by decide +kernel
theorem dX12_beside_7 : decode cX12_beside 7 = .ok (.invokevirtual 513, 3) := by decide +kernel
theorem dX12_beside_10 : decode cX12_beside 10 = .ok (.ifCond .eq 14, 3) := by decide +kernel
theorem dX12_beside_24 : decode cX12_beside 24 = .ok (.aload_n 0, 1) := by decide +kernel
theorem dX12_beside_25 : decode cX12_beside 25 = .ok (.iconst 0, 1) := by decide +kernel
theorem dX12_beside_26 : decode cX12_beside 26 = .ok (.putfield 174, 3) := by decide +kernel
theorem dX12_beside_29 : decode cX12_beside 29 = .ok (.ldc2_w 531, 3) := by decide +kernel
theorem dX12_beside_32 : decode cX12_beside 32 = .ok (.lreturn, 1) := by decide +kernel
theorem dX12_beside_13 : decode cX12_beside 13 = .ok (.aload_n 0, 1) := by decide +kernel
theorem dX12_beside_14 : decode cX12_beside 14 = .ok (.getfield 8, 3) := by decide +kernel
theorem dX12_beside_17 : decode cX12_beside 17 = .ok (.iconst 3, 1) := by decide +kernel
theorem dX12_beside_18 : decode cX12_beside 18 = .ok (.iaload, 1) := by decide +kernel
theorem dX12_beside_19 : decode cX12_beside 19 = .ok (.bipush 20, 2) := by decide +kernel
theorem dX12_beside_21 : decode cX12_beside 21 = .ok (.if_icmp .ne 12, 3) := by decide +kernel
theorem dX12_beside_33 : decode cX12_beside 33 = .ok (.aload_n 0, 1) := by decide +kernel
theorem dX12_beside_34 : decode cX12_beside 34 = .ok (.invokevirtual 507, 3) := by decide +kernel
theorem dX12_beside_37 : decode cX12_beside 37 = .ok (.aload_n 0, 1) := by decide +kernel
theorem dX12_beside_38 : decode cX12_beside 38 = .ok (.aload_n 0, 1) := by decide +kernel
theorem dX12_beside_39 : decode cX12_beside 39 = .ok (.getfield 8, 3) := by decide +kernel
theorem dX12_beside_42 : decode cX12_beside 42 = .ok (.bipush 8, 2) := by decide +kernel
theorem dX12_beside_44 : decode cX12_beside 44 = .ok (.iaload, 1) := by decide +kernel
theorem dX12_beside_45 : decode cX12_beside 45 = .ok (.invokevirtual 385, 3) := by decide +kernel
theorem dX12_beside_48 : decode cX12_beside 48 = .ok (.istore_n 2, 1) := by decide +kernel
theorem dX12_beside_49 : decode cX12_beside 49 = .ok (.aload_n 0, 1) := by decide +kernel
theorem dX12_beside_50 : decode cX12_beside 50 = .ok (.iconst 0, 1) := by decide +kernel
theorem dX12_beside_51 : decode cX12_beside 51 = .ok (.putfield 174, 3) := by decide +kernel
theorem dX12_beside_54 : decode cX12_beside 54 = .ok (.iload_n 2, 1) := by decide +kernel
theorem dX12_beside_55 : decode cX12_beside 55 = .ok (.ifCond .ne 7, 3) := by decide +kernel
theorem dX12_beside_58 : decode cX12_beside 58 = .ok (.ldc2_w 531, 3) := by decide +kernel
theorem dX12_beside_61 : decode cX12_beside 61 = .ok (.lreturn, 1) := by decide +kernel
theorem dX12_beside_62 : decode cX12_beside 62 = .ok (.aload_n 0, 1) := by decide +kernel
theorem dX12_beside_63 : decode cX12_beside 63 = .ok (.iload_n 1, 1) := by decide +kernel
theorem dX12_beside_64 : decode cX12_beside 64 = .ok (.invokevirtual 533, 3) := by decide +kernel
theorem dX12_beside_67 : decode cX12_beside 67 = .ok (.lstore_n 3, 1) := by decide +kernel
theorem dX12_beside_68 : decode cX12_beside 68 = .ok (.aload_n 0, 1) := by decide +kernel
theorem dX12_beside_69 : decode cX12_beside 69 = .ok (.invokevirtual 510, 3) := by decide +kernel
theorem dX12_beside_72 : decode cX12_beside 72 = .ok (.aload_n 0, 1) := by decide +kernel
theorem dX12_beside_73 : decode cX12_beside 73 = .ok (.iload_n 1, 1) := by decide +kernel
theorem dX12_beside_74 : decode cX12_beside 74 = .ok (.invokevirtual 533, 3) := by decide +kernel
theorem dX12_beside_77 : decode cX12_beside 77 = .ok (.lstore 5, 2) := by decide +kernel
theorem dX12_beside_79 : decode cX12_beside 79 = .ok (.aload_n 0, 1) := by decide +kernel
theorem dX12_beside_80 : decode cX12_beside 80 = .ok (.invokevirtual 510, 3) := by decide +kernel
theorem dX12_beside_83 : decode cX12_beside 83 = .ok (.lload_n 3, 1) := by decide +kernel
theorem dX12_beside_84 : decode cX12_beside 84 = .ok (.lload 5, 2) := by decide +kernel
theorem dX12_beside_86 : decode cX12_beside 86 = .ok (.lsub, 1) := by decide +kernel
theorem dX12_beside_87 : decode cX12_beside 87 = .ok (.lreturn, 1) := by decide +kernel
def rw_X12_readText : List (Nat × Nat) := [(3, 3), (17982, 35941)]
def ms_X12_readText : List (Nat × Nat) := [(12, 13), (12, 14), (12, 15), (12, 16), (12, 17), (12, 18), (12, 19), (12, 21), (12, 24), (12, 27), (12, 28), (822, 0), (840, 0), (842, 0), (843, 0), (845, 0), (846, 0)]
def po_X12_readText (kp : Nat → Nat) (L : List Nat) (f0 : Nat → va_E) (h0 : Nat) (u1 : Int32) : Option Value → (Nat → va_E) → Prop := fun v f => (∃ r : Int32, v = some (.int r) ∧ ((0 : Int) ≤ r.toInt ∧ r.toInt ≤ 1)) ∧ FM kp L ms_X12_readText f0 f ∧ (v = some (.int 0) → aI (f (oR (f0 h0) 2)) = aI (f0 (oR (f0 h0) 2))) ∧ (v = some (.int 1) → TX (aI (f (oR (f0 h0) 2)))) ∧ (RF rw_X12_readText f0 f h0)
set_option maxHeartbeats 16000000 in
set_option maxRecDepth 100000 in
theorem c_X12_readText (l : Launch) (G : va_G) (cI cJ cZ cD cR cT : ClassId) (kp : Nat → Nat) (L : List Nat) (f0 : Nat → va_E) (hTH : TH cI cJ cZ cD cR cT kp L f0) (sz : Nat) (h0 : Nat) (u1 : Int32) (rh0 : RK kp L h0 12) (pu1 : (0 : Int) ≤ u1.toInt ∧ u1.toInt ≤ 399) (hTX : TX (aI (f0 (oR (f0 h0) 2)))) (hr3 : (0 : Int) ≤ (aI (f0 (oR (f0 h0) 2)) (3 : Int32).toNatClampNeg).toInt ∧ (aI (f0 (oR (f0 h0) 2)) (3 : Int32).toNatClampNeg).toInt ≤ 19) : Met l yX12_readText (Cond.code yX12_readText cX12_readText 4 (some .boolean) :: wTab) ({ frames := 9, cells := 0, slots := 0, locals := 212 }) (va_Pc [.ref h0, .int u1] (PreW G (tys6 cI cJ cZ cD cR cT) (va_pl L f0) sz)) (QT (po_X12_readText kp L f0 h0 u1) G cI cJ cZ cD cR cT (va_A (va_pl L f0) sz) kp L) 0 0 (va_A (va_pl L f0) sz) := by
  refine metT (by decide) (Nat.le_of_ble_eq_true rfl) hTH ?_
  intro p e s m below meth c A ls E hW hl
  obtain ⟨hx, hb, -, hml, hown, hts, -, -, -⟩ := id E
  have hF : FM kp L ms_X12_readText f0 f0 := FM.rf
  have hl : lv_has ls 4 [(0, .ref h0), (1, .int u1)] := hl
  obtain ⟨pR, mR⟩ : ∃ x : Nat, oR (f0 h0) 2 = x := ⟨_, rfl⟩
  have rR : RK kp L pR 822 := by rw [← mR]; exact th_ref hTH rh0 (by decide) (by decide) rfl
  obtain ⟨pF12, mF12⟩ : ∃ x : Int32, oI (f0 h0) 12 = x := ⟨_, rfl⟩
  have bF12 : (0 : Int) ≤ pF12.toInt ∧ pF12.toInt ≤ 400 := by rw [← mF12]; exact th_iv hW rh0 (by decide) (by decide) rfl
  obtain ⟨pF13, mF13⟩ : ∃ x : Int32, oI (f0 h0) 13 = x := ⟨_, rfl⟩
  have bF13 : (0 : Int) ≤ pF13.toInt ∧ pF13.toInt ≤ 400 := by rw [← mF13]; exact th_iv hW rh0 (by decide) (by decide) rfl
  obtain ⟨pF14, mF14⟩ : ∃ x : Int32, oI (f0 h0) 14 = x := ⟨_, rfl⟩
  have bF14 : (0 : Int) ≤ pF14.toInt ∧ pF14.toInt ≤ 400 := by rw [← mF14]; exact th_iv hW rh0 (by decide) (by decide) rfl
  obtain ⟨pF15, mF15⟩ : ∃ x : Int32, oI (f0 h0) 15 = x := ⟨_, rfl⟩
  have bF15 : (0 : Int) ≤ pF15.toInt ∧ pF15.toInt ≤ 3 := by rw [← mF15]; exact th_iv hW rh0 (by decide) (by decide) rfl
  obtain ⟨pF18, mF18⟩ : ∃ x : Int32, oI (f0 h0) 18 = x := ⟨_, rfl⟩
  have bF18 : (0 : Int) ≤ pF18.toInt ∧ pF18.toInt ≤ 1 := by rw [← mF18]; exact th_iv hW rh0 (by decide) (by decide) rfl
  obtain ⟨pF21, mF21⟩ : ∃ x : Int32, oI (f0 h0) 21 = x := ⟨_, rfl⟩
  have bF21 : (0 : Int) ≤ pF21.toInt ∧ pF21.toInt ≤ 400 := by rw [← mF21]; exact th_iv hW rh0 (by decide) (by decide) rfl
  obtain ⟨pF24, mF24⟩ : ∃ x : Int32, oI (f0 h0) 24 = x := ⟨_, rfl⟩
  have bF24 : (0 : Int) ≤ pF24.toInt ∧ pF24.toInt ≤ 50 := by rw [← mF24]; exact th_iv hW rh0 (by decide) (by decide) rfl
  obtain ⟨pF27, mF27⟩ : ∃ x : Int32, oI (f0 h0) 27 = x := ⟨_, rfl⟩
  have bF27 : (0 : Int) ≤ pF27.toInt ∧ pF27.toInt ≤ 400 := by rw [← mF27]; exact th_iv hW rh0 (by decide) (by decide) rfl
  obtain ⟨pF19, mF19⟩ : ∃ x : Int32, oI (f0 h0) 19 = x := ⟨_, rfl⟩
  have bF19 : (0 : Int) ≤ pF19.toInt ∧ pF19.toInt ≤ 12 := by rw [← mF19]; exact th_iv hW rh0 (by decide) (by decide) rfl
  obtain ⟨pW, mW⟩ : ∃ x : Int64, oJ (f0 h0) 16 = x := ⟨_, rfl⟩
  rw [mR] at hTX
  rw [mR] at hr3
  obtain ⟨p3, mp3⟩ : ∃ x : Int32, aI (f0 pR) (3 : Int32).toNatClampNeg = x := ⟨_, rfl⟩
  rw [mp3] at hr3
  refine lv_aload_n hx hb dX12_readText_0 rfl (lv_at hl 0 rfl) ?_
  have hw4 := hW.2.2.2
  refine t_callV (As := []) (rest := []) E hW (c_X12_begin l G cI cJ cZ cD cR cT kp L f0 hW.2.2.2 _ h0 rh0) rh0 (by decide) rfl wk_X12_begin tw_1769 rfl ⟨Nat.le_of_ble_eq_true rfl, Nat.le_of_ble_eq_true rfl⟩ ⟨rfl, rfl⟩ hl.1 rfl (Nat.le_of_ble_eq_true rfl) dX12_readText_1 ⟨Nat.le_of_ble_eq_true rfl, Nat.le_of_ble_eq_true rfl⟩ (fun v1 f2 H locs q3 hW => ?_)
  obtain ⟨rfl, g5, h6⟩ := q3
  have z7 : RF rw_X12_readText f0 f2 h0 := rf_fm hTH rf_rf g5 rh0 rfl
  have hF := FM.tr hF g5 rfl
  obtain ⟨y8, m9⟩ : ∃ x : Int32, oI (f2 h0) 13 = x := ⟨_, rfl⟩
  have b10 : (0 : Int) ≤ y8.toInt ∧ y8.toInt ≤ 400 := by rw [← m9]; exact th_iv hW rh0 (by decide) (by decide) rfl
  obtain ⟨y11, m12⟩ : ∃ x : Int32, oI (f2 h0) 14 = x := ⟨_, rfl⟩
  have b13 : (0 : Int) ≤ y11.toInt ∧ y11.toInt ≤ 400 := by rw [← m12]; exact th_iv hW rh0 (by decide) (by decide) rfl
  obtain ⟨y14, m15⟩ : ∃ x : Int32, oI (f2 h0) 15 = x := ⟨_, rfl⟩
  have b16 : (0 : Int) ≤ y14.toInt ∧ y14.toInt ≤ 3 := by rw [← m15]; exact th_iv hW rh0 (by decide) (by decide) rfl
  obtain ⟨y17, m18⟩ : ∃ x : Int32, oI (f2 h0) 18 = x := ⟨_, rfl⟩
  have b19 : (0 : Int) ≤ y17.toInt ∧ y17.toInt ≤ 1 := by rw [← m18]; exact th_iv hW rh0 (by decide) (by decide) rfl
  obtain ⟨y20, m21⟩ : ∃ x : Int64, oJ (f2 h0) 16 = x := ⟨_, rfl⟩
  simp only [((fm_I g5 rh0 rfl).trans mF12), mF12, m9, mF13, m12, mF14, m15, mF15, m18, mF18, m21, mW] at h6
  refine lv_aload_n hx hb dX12_readText_4 rfl (lv_at hl 0 rfl) ?_
  refine lv_iconst (v := 0) hx hb dX12_readText_5 (by decide) ?_
  have hw26 := hW.2.2.2
  refine fp_RX12_356 E hW rh0 (by decide) dX12_readText_6 (fun f22 H locs e23 n24 g25 hW => ?_)
  have m27 : aI (f22 pR) (3 : Int32).toNatClampNeg = p3 := ((congrArg (fun z => aI z (3 : Int32).toNatClampNeg) (fm_A g25 rR (by decide) rfl)).trans ((congrArg (fun z => aI z (3 : Int32).toNatClampNeg) (fm_A g5 rR (by decide) rfl)).trans mp3))
  have z28 : RF rw_X12_readText f0 f22 h0 := rf_fm hTH z7 g25 rh0 rfl
  have hF := FM.tr hF g25 rfl
  refine lv_aload_n hx hb dX12_readText_9 rfl (lv_at hl 0 rfl) ?_
  refine lv_iconst (v := 0) hx hb dX12_readText_10 (by decide) ?_
  have hw33 := hW.2.2.2
  refine fp_RX12_229 E hW rh0 (by decide) dX12_readText_11 (fun f29 H locs e30 n31 g32 hW => ?_)
  have z34 : RF rw_X12_readText f0 f29 h0 := rf_fm hTH z28 g32 rh0 rfl
  have hF := FM.tr hF g32 rfl
  refine lv_aload_n hx hb dX12_readText_14 rfl (lv_at hl 0 rfl) ?_
  refine lv_iconst (v := 0) hx hb dX12_readText_15 (by decide) ?_
  have hw39 := hW.2.2.2
  refine fp_RX12_290 E hW rh0 (by decide) dX12_readText_16 (fun f35 H locs e36 n37 g38 hW => ?_)
  have m40 : aI (f35 pR) (3 : Int32).toNatClampNeg = p3 := ((congrArg (fun z => aI z (3 : Int32).toNatClampNeg) (fm_A g38 rR (by decide) rfl)).trans ((congrArg (fun z => aI z (3 : Int32).toNatClampNeg) (fm_A g32 rR (by decide) rfl)).trans m27))
  have m41 : aI (f35 pR) = aI (f0 pR) := ((congrArg aI (fm_A g38 rR (by decide) rfl)).trans ((congrArg aI (fm_A g32 rR (by decide) rfl)).trans ((congrArg aI (fm_A g25 rR (by decide) rfl)).trans ((congrArg aI (fm_A g5 rR (by decide) rfl)).trans rfl))))
  have z42 : RF rw_X12_readText f0 f35 h0 := rf_fm hTH z34 g38 rh0 rfl
  have hF := FM.tr hF g38 rfl
  refine lv_aload_n hx hb dX12_readText_19 rfl (lv_at hl 0 rfl) ?_
  have hw46 := hW.2.2.2
  refine t_callV (As := []) (rest := []) E hW (c_X12_readClause l G cI cJ cZ cD cR cT kp L f35 hW.2.2.2 _ h0 rh0 (fun c h1 h2 => by rw [((fm_I g38 rh0 rfl).trans ((fm_I g32 rh0 rfl).trans e23))] at h2; have hk : (0 : Int32).toInt = 0 := rfl; omega) (by have hk21 : (0 : Int32).toInt = 0 := rfl; simp only [((fm_I g38 rh0 rfl).trans ((fm_I g32 rh0 rfl).trans ((fm_I g25 rh0 rfl).trans ((fm_I g5 rh0 rfl).trans mF12)))), ((fm_I g38 rh0 rfl).trans ((fm_I g32 rh0 rfl).trans ((fm_I g25 rh0 rfl).trans m9))), ((fm_I g38 rh0 rfl).trans ((fm_I g32 rh0 rfl).trans ((fm_I g25 rh0 rfl).trans m12))), ((fm_I g38 rh0 rfl).trans ((fm_I g32 rh0 rfl).trans ((fm_I g25 rh0 rfl).trans m15))), ((fm_I g38 rh0 rfl).trans ((fm_I g32 rh0 rfl).trans ((fm_I g25 rh0 rfl).trans m18))), ((fm_I g38 rh0 rfl).trans e30), ((fm_J g38 rh0 rfl).trans ((fm_J g32 rh0 rfl).trans ((fm_J g25 rh0 rfl).trans m21))), and_true, true_and, true_or, or_true, false_or, or_false] <;> omega)) rh0 (by decide) rfl wk_X12_readClause tw_1788 rfl ⟨Nat.le_of_ble_eq_true rfl, Nat.le_of_ble_eq_true rfl⟩ ⟨rfl, rfl⟩ hl.1 rfl (Nat.le_of_ble_eq_true rfl) dX12_readText_20 ⟨Nat.le_of_ble_eq_true rfl, Nat.le_of_ble_eq_true rfl⟩ (fun v43 f44 H locs q45 hW => ?_)
  obtain ⟨rfl, g47, h48, h49⟩ := q45
  have z50 : RF rw_X12_readText f0 f44 h0 := rf_fm hTH z42 g47 rh0 rfl
  have hF := FM.tr hF g47 rfl
  obtain ⟨y51, m52⟩ : ∃ x : Int32, oI (f44 h0) 13 = x := ⟨_, rfl⟩
  have b53 : (0 : Int) ≤ y51.toInt ∧ y51.toInt ≤ 400 := by rw [← m52]; exact th_iv hW rh0 (by decide) (by decide) rfl
  obtain ⟨y54, m55⟩ : ∃ x : Int32, oI (f44 h0) 14 = x := ⟨_, rfl⟩
  have b56 : (0 : Int) ≤ y54.toInt ∧ y54.toInt ≤ 400 := by rw [← m55]; exact th_iv hW rh0 (by decide) (by decide) rfl
  obtain ⟨y57, m58⟩ : ∃ x : Int32, oI (f44 h0) 15 = x := ⟨_, rfl⟩
  have b59 : (0 : Int) ≤ y57.toInt ∧ y57.toInt ≤ 3 := by rw [← m58]; exact th_iv hW rh0 (by decide) (by decide) rfl
  obtain ⟨y60, m61⟩ : ∃ x : Int32, oI (f44 h0) 18 = x := ⟨_, rfl⟩
  have b62 : (0 : Int) ≤ y60.toInt ∧ y60.toInt ≤ 1 := by rw [← m61]; exact th_iv hW rh0 (by decide) (by decide) rfl
  obtain ⟨y63, m64⟩ : ∃ x : Int32, oI (f44 h0) 21 = x := ⟨_, rfl⟩
  have b65 : (0 : Int) ≤ y63.toInt ∧ y63.toInt ≤ 400 := by rw [← m64]; exact th_iv hW rh0 (by decide) (by decide) rfl
  obtain ⟨y66, m67⟩ : ∃ x : Int64, oJ (f44 h0) 16 = x := ⟨_, rfl⟩
  simp only [((fm_I g47 rh0 rfl).trans ((fm_I g38 rh0 rfl).trans ((fm_I g32 rh0 rfl).trans ((fm_I g25 rh0 rfl).trans ((fm_I g5 rh0 rfl).trans mF12))))), ((fm_I g38 rh0 rfl).trans ((fm_I g32 rh0 rfl).trans ((fm_I g25 rh0 rfl).trans ((fm_I g5 rh0 rfl).trans mF12)))), m52, ((fm_I g38 rh0 rfl).trans ((fm_I g32 rh0 rfl).trans ((fm_I g25 rh0 rfl).trans m9))), m55, ((fm_I g38 rh0 rfl).trans ((fm_I g32 rh0 rfl).trans ((fm_I g25 rh0 rfl).trans m12))), m58, ((fm_I g38 rh0 rfl).trans ((fm_I g32 rh0 rfl).trans ((fm_I g25 rh0 rfl).trans m15))), m61, ((fm_I g38 rh0 rfl).trans ((fm_I g32 rh0 rfl).trans ((fm_I g25 rh0 rfl).trans m18))), m64, ((fm_I g38 rh0 rfl).trans e30), m67, ((fm_J g38 rh0 rfl).trans ((fm_J g32 rh0 rfl).trans ((fm_J g25 rh0 rfl).trans m21)))] at h48
  have hk68 : (0 : Int32).toInt = 0 := rfl
  have L196 : ∀ (n : Nat), ∀ (f161 : Nat → va_E) (y165 : Int32) (y168 : Int32) (y171 : Int32) (y174 : Int64) (y177 : Int32) (y180 : Int32) (y183 : Int32) (y186 : Int32) (y189 : Int32) (m162 : oR (f161 h0) 2 = pR) (m163 : oI (f161 h0) 12 = pF12) (m164 : aI (f161 pR) (3 : Int32).toNatClampNeg = p3) (m166 : oI (f161 h0) 13 = y165) (b167 : (0 : Int) ≤ y165.toInt ∧ y165.toInt ≤ 400) (m169 : oI (f161 h0) 14 = y168) (b170 : (0 : Int) ≤ y168.toInt ∧ y168.toInt ≤ 400) (m172 : oI (f161 h0) 15 = y171) (b173 : (0 : Int) ≤ y171.toInt ∧ y171.toInt ≤ 3) (m175 : oJ (f161 h0) 16 = y174) (b176 : True) (m178 : oI (f161 h0) 18 = y177) (b179 : (0 : Int) ≤ y177.toInt ∧ y177.toInt ≤ 1) (m181 : oI (f161 h0) 19 = y180) (b182 : (0 : Int) ≤ y180.toInt ∧ y180.toInt ≤ 12) (m184 : oI (f161 h0) 21 = y183) (b185 : (0 : Int) ≤ y183.toInt ∧ y183.toInt ≤ 400) (m187 : oI (f161 h0) 24 = y186) (b188 : (0 : Int) ≤ y186.toInt ∧ y186.toInt ≤ 50) (m190 : oI (f161 h0) 27 = y189) (b191 : (0 : Int) ≤ y189.toInt ∧ y189.toInt ≤ 400) (z192 : aI (f161 pR) = aI (f0 pR)) (z193 : RF rw_X12_readText f0 f161 h0) (v194 : y183.toInt ≤ y165.toInt ∧ y165.toInt ≤ y168.toInt ∧ y168.toInt ≤ pF12.toInt ∧ (y171.toInt = 0 ∨ y165.toInt < y168.toInt) ∧ (¬ y171.toInt = 1 ∨ y174.toInt ≤ 26 ∨ y165.toInt + 2 ≤ y168.toInt)) (v195 : (oI (f161 h0) 18).toInt = 1 ∨ CLs (vO f161 h0) (vA f161 h0) (vN f161 h0) (oI (f161 h0) 21).toInt (oI (f161 h0) 19).toInt) (hm : (1 : Int) ≤ n ∧ (y177.toInt = 1 ∨ 402 - y165.toInt ≤ n)) (H : Heap) (locs : List Loc) (ls : Array Slot), WS G cI cJ cZ cD cR cT A kp L f161 s H locs → FM kp L ms_X12_readText f0 f161 → lv_has ls 4 [(0, .ref h0), (1, .int u1)] → W p l e ({ frames := 9, cells := 0, slots := 0, locals := 212 }) s m ([.ref h0, .int u1] : List Value).toArray below meth c H locs 0 0 (MQ below (QT (po_X12_readText kp L f0 h0 u1) G cI cJ cZ cD cR cT A kp L) ([.ref h0, .int u1] : List Value).toArray s 0 0 A) (F0 m 23 ls []) := by
    intro n
    induction n with
    | zero =>
      intro f161 y165 y168 y171 y174 y177 y180 y183 y186 y189 m162 m163 m164 m166 b167 m169 b170 m172 b173 m175 b176 m178 b179 m181 b182 m184 b185 m187 b188 m190 b191 z192 z193 v194 v195 hm H locs ls hW hF hl
      exfalso; omega
    | succ n ih =>
      intro f161 y165 y168 y171 y174 y177 y180 y183 y186 y189 m162 m163 m164 m166 b167 m169 b170 m172 b173 m175 b176 m178 b179 m181 b182 m184 b185 m187 b188 m190 b191 z192 z193 v194 v195 hm H locs ls hW hF hl
      clear b176
      have ih23 := ih
      refine lv_aload_n hx hb dX12_readText_23 rfl (lv_at hl 0 rfl) ?_
      refine fg_RX12_193 E hW rh0 dX12_readText_24 (fun y197 m198 b199 => ?_)
      obtain rfl : y177 = y197 := (m178).symm.trans m198
      refine q_if_ne (tgt := 50) hx hb dX12_readText_27 (by decide) rfl (fun c200 => ?_) (fun c200 => ?_)
      · refine lv_aload_n hx hb dX12_readText_50 rfl (lv_at hl 0 rfl) ?_
        refine fg_RX12_193 E hW rh0 dX12_readText_51 (fun y201 m202 b203 => ?_)
        obtain rfl : y177 = y201 := (m198).symm.trans m202
        refine q_if_ne (tgt := 69) hx hb dX12_readText_54 (by decide) rfl (fun c204 => ?_) (fun c204 => ?_)
        · refine lv_aload_n hx hb dX12_readText_69 rfl (lv_at hl 0 rfl) ?_
          refine fg_RX12_193 E hW rh0 dX12_readText_70 (fun y205 m206 b207 => ?_)
          obtain rfl : y177 = y205 := (m202).symm.trans m206
          refine q_if_eq (tgt := 78) hx hb dX12_readText_73 (by decide) rfl (fun c208 => ?_) (fun c208 => ?_)
          · exfalso; omega
          · refine lv_iconst (v := 0) hx hb dX12_readText_76 (by decide) ?_
            exact e_Z E hW rfl (by decide) ⟨⟨_, rfl, (by have hk : (0 : Int32).toInt = 0 := rfl; first | decide | omega)⟩, hF, (fun _ => by rw [mR]; exact z192), (fun q => not_one q), z193⟩ dX12_readText_77
        · exfalso; omega
      · refine lv_aload_n hx hb dX12_readText_30 rfl (lv_at hl 0 rfl) ?_
        refine lv_bipush (v := 59) hx hb dX12_readText_31 (by decide) ?_
        have hw212 := hW.2.2.2
        refine t_callV (As := [.int 59]) (rest := []) E hW (c_X12_isSign l G cI cJ cZ cD cR cT kp L f161 hW.2.2.2 _ h0 59 rh0 (by decide)) rh0 (by decide) rfl wk_X12_isSign tw_1832 rfl ⟨Nat.le_of_ble_eq_true rfl, Nat.le_of_ble_eq_true rfl⟩ ⟨rfl, rfl⟩ hl.1 rfl (Nat.le_of_ble_eq_true rfl) dX12_readText_33 ⟨Nat.le_of_ble_eq_true rfl, Nat.le_of_ble_eq_true rfl⟩ (fun v209 f210 H locs q211 hW => ?_)
        obtain ⟨⟨x214, rfl, p215⟩, g213⟩ := q211
        simp only [m172, m175] at p215
        have p215 : (x214.toInt = 1 ∧ y171.toInt = 3) ∨ x214.toInt = 0 := p215
        have z216 : RF rw_X12_readText f0 f210 h0 := rf_fm hTH z193 g213 rh0 rfl
        have z217 : (oI (f210 h0) 18).toInt = 1 ∨ CLs (vO f210 h0) (vA f210 h0) (vN f210 h0) (oI (f210 h0) 21).toInt (oI (f210 h0) 19).toInt := cl_keep v195 hw212 g213 rh0 rfl rfl rfl rfl (fun q => by rw [fm_I g213 rh0 rfl]; exact q)
        have hF := FM.tr hF g213 rfl
        refine q_if_eq (tgt := 50) hx hb dX12_readText_36 (by decide) rfl (fun c218 => ?_) (fun c218 => ?_)
        · clear p215
          refine lv_aload_n hx hb dX12_readText_50 rfl (lv_at hl 0 rfl) ?_
          refine fg_RX12_193 E hW rh0 dX12_readText_51 (fun y219 m220 b221 => ?_)
          obtain rfl : y177 = y219 := (((fm_I g213 rh0 rfl).trans m198)).symm.trans m220
          refine q_if_ne (tgt := 69) hx hb dX12_readText_54 (by decide) rfl (fun c222 => ?_) (fun c222 => ?_)
          · exfalso; omega
          · refine lv_aload_n hx hb dX12_readText_57 rfl (lv_at hl 0 rfl) ?_
            refine fg_RX12_212 E hW rh0 dX12_readText_58 (fun y223 m224 b225 => ?_)
            obtain rfl : y171 = y223 := (((fm_I g213 rh0 rfl).trans m172)).symm.trans m224
            refine q_if_eq (tgt := 69) hx hb dX12_readText_61 (by decide) rfl (fun c226 => ?_) (fun c226 => ?_)
            · refine lv_aload_n hx hb dX12_readText_69 rfl (lv_at hl 0 rfl) ?_
              refine fg_RX12_193 E hW rh0 dX12_readText_70 (fun y227 m228 b229 => ?_)
              obtain rfl : y177 = y227 := (m220).symm.trans m228
              refine q_if_eq (tgt := 78) hx hb dX12_readText_73 (by decide) rfl (fun c230 => ?_) (fun c230 => ?_)
              · refine lv_aload_n hx hb dX12_readText_78 rfl (lv_at hl 0 rfl) ?_
                refine fg_RX12_8 E hW rh0 dX12_readText_79 (fun a231 m232 r233 => ?_)
                obtain rfl : pR = a231 := (((fm_R g213 rh0 rfl).trans m162)).symm.trans m232
                refine lv_iconst (v := 3) hx hb dX12_readText_82 (by decide) ?_
                refine gl_822 E hW rR (by decide) dX12_readText_83 (fun y234 m235 b236 => ?_)
                obtain rfl : p3 = y234 := (((congrArg (fun z => aI z (3 : Int32).toNatClampNeg) (fm_A g213 rR (by decide) rfl)).trans m164)).symm.trans m235
                have hw240 := hW.2.2.2
                refine t_callS (As := [.int p3]) (rest := []) E hW (c_X12_textAt l G cI cJ cZ cD cR cT kp L f210 hW.2.2.2 _ p3 (by omega)) wk_X12_textAt tw_1655 rfl ⟨Nat.le_of_ble_eq_true rfl, Nat.le_of_ble_eq_true rfl⟩ ⟨rfl, rfl⟩ hl.1 rfl (Nat.le_of_ble_eq_true rfl) dX12_readText_84 ⟨Nat.le_of_ble_eq_true rfl, Nat.le_of_ble_eq_true rfl⟩ (fun v237 f238 H locs q239 hW => ?_)
                obtain ⟨⟨x242, rfl, p243⟩, g241⟩ := q239
                have z244 : RF rw_X12_readText f0 f238 h0 := rf_fm hTH z216 g241 rh0 rfl
                have z245 : (oI (f238 h0) 18).toInt = 1 ∨ CLs (vO f238 h0) (vA f238 h0) (vN f238 h0) (oI (f238 h0) 21).toInt (oI (f238 h0) 19).toInt := cl_keep z217 hw240 g241 rh0 rfl rfl rfl rfl (fun q => by rw [fm_I g241 rh0 rfl]; exact q)
                have hF := FM.tr hF g241 rfl
                refine lv_istore_n (lv' := [(2, .int x242), (0, .ref h0), (1, .int u1)]) hx hb dX12_readText_87 rfl hl (by decide) rfl (fun ls hl => ?_)
                refine lv_aload_n hx hb dX12_readText_88 rfl (lv_at hl 1 rfl) ?_
                refine fg_RX12_8 E hW rh0 dX12_readText_89 (fun a246 m247 r248 => ?_)
                obtain rfl : pR = a246 := (((fm_R g241 rh0 rfl).trans m232)).symm.trans m247
                refine lv_iload_n hx hb dX12_readText_92 rfl (lv_at hl 0 rfl) ?_
                refine lv_iload_n hx hb dX12_readText_93 rfl (lv_at hl 2 rfl) ?_
                obtain ⟨cN, ecN⟩ : ∃ x, x = vN f238 h0 := ⟨_, rfl⟩
                obtain ⟨cO, ecO⟩ : ∃ x, x = vO f238 h0 := ⟨_, rfl⟩
                obtain ⟨cA, ecA⟩ : ∃ x, x = vA f238 h0 := ⟨_, rfl⟩
                have hCL : CLs cO cA cN y183.toInt y180.toInt := by have q := z245.resolve_left (by rw [((fm_I g241 rh0 rfl).trans m228)]; omega); rw [((fm_I g241 rh0 rfl).trans ((fm_I g213 rh0 rfl).trans m184)), ((fm_I g241 rh0 rfl).trans ((fm_I g213 rh0 rfl).trans m181))] at q; rw [ecN, ecO, ecA]; exact q
                have hw253 := hW.2.2.2
                refine gs_822 E hW rR ⟨by omega, by omega⟩ (fun hc => rr_up2 hc (by omega) (rb_free (by omega))) dX12_readText_94 (fun f249 H locs e250 n251 g252 hW => ?_)
                have z254 : RF rw_X12_readText f0 f249 h0 := rf_st (lo := 17982) (hi := 35044) z244 mR e250 (by omega) rfl
                have z255 : vN f249 h0 = cN ∧ vO f249 h0 = cO ∧ vA f249 h0 = cA := cn_keep ⟨ecN.symm, ecO.symm, ecA.symm⟩ hw253 g252 rh0 rfl rfl rfl
                have hF := FM.tr hF g252 rfl
                have z256 : aI (f249 pR) = upd (aI (f0 pR)) (x242 : Int32).toNatClampNeg u1 := by rw [e250, ((congrArg aI (fm_A g241 rR (by decide) rfl)).trans ((congrArg aI (fm_A g213 rR (by decide) rfl)).trans z192))]
                refine lv_aload_n hx hb dX12_readText_95 rfl (lv_at hl 1 rfl) ?_
                refine fg_RX12_8 E hW rh0 dX12_readText_96 (fun a257 m258 r259 => ?_)
                obtain rfl : pR = a257 := (((fm_R g252 rh0 rfl).trans m247)).symm.trans m258
                refine lv_iload_n hx hb dX12_readText_99 rfl (lv_at hl 0 rfl) ?_
                refine lv_iconst (v := 1) hx hb dX12_readText_100 (by decide) ?_
                refine q_iadd (Y := 1) hx hb dX12_readText_101 rfl rfl (by omega) (fun x260 h261 => ?_)
                refine lv_aload_n hx hb dX12_readText_102 rfl (lv_at hl 1 rfl) ?_
                refine fg_RX12_356 E hW rh0 dX12_readText_103 (fun y262 m263 b264 => ?_)
                obtain rfl : y180 = y262 := (((fm_I g252 rh0 rfl).trans ((fm_I g241 rh0 rfl).trans ((fm_I g213 rh0 rfl).trans m181)))).symm.trans m263
                have hw269 := hW.2.2.2
                refine gs_822 E hW rR ⟨by omega, by omega⟩ (fun hc => rr_up2 hc (by omega) (rb_free (by omega))) dX12_readText_106 (fun f265 H locs e266 n267 g268 hW => ?_)
                have z270 : RF rw_X12_readText f0 f265 h0 := rf_st (lo := 17983) (hi := 35045) z254 mR e266 (by omega) rfl
                have z271 : vN f265 h0 = cN ∧ vO f265 h0 = cO ∧ vA f265 h0 = cA := cn_keep z255 hw269 g268 rh0 rfl rfl rfl
                have hF := FM.tr hF g268 rfl
                have z272 : TB (aI (f265 pR)) (aI (f0 pR)) cN cO cA x242.toInt y180.toInt 0 0 := tb_0 z256 rfl e266 (by omega) rfl (by omega)
                refine lv_iconst (v := 0) hx hb dX12_readText_107 (by decide) ?_
                refine lv_istore_n (lv' := [(3, .int 0), (2, .int x242), (0, .ref h0), (1, .int u1)]) hx hb dX12_readText_108 rfl hl (by decide) rfl (fun ls hl => ?_)
                have L1672 : ∀ (n : Nat), ∀ (f1653 : Nat → va_E) (y1666 : Int32) (m1654 : oR (f1653 h0) 2 = pR) (m1655 : oI (f1653 h0) 12 = pF12) (m1656 : oI (f1653 h0) 13 = y165) (m1657 : oI (f1653 h0) 14 = y168) (m1658 : oI (f1653 h0) 15 = y171) (m1659 : oJ (f1653 h0) 16 = y174) (m1660 : oI (f1653 h0) 18 = y177) (m1661 : oI (f1653 h0) 19 = y180) (m1662 : oI (f1653 h0) 21 = y183) (m1663 : oI (f1653 h0) 24 = y186) (m1664 : oI (f1653 h0) 27 = y189) (m1665 : aI (f1653 pR) (3 : Int32).toNatClampNeg = p3) (b1667 : (0 : Int) ≤ y1666.toInt ∧ y1666.toInt ≤ 96) (z1668 : RF rw_X12_readText f0 f1653 h0) (v1669 : y1666.toInt ≤ 8 * y180.toInt) (v1671 : vN f1653 h0 = cN ∧ vO f1653 h0 = cO ∧ vA f1653 h0 = cA) (v1670 : TB (aI (f1653 pR)) (aI (f0 pR)) cN cO cA x242.toInt y180.toInt y1666.toInt 0) (hm : (97 : Int) - y1666.toInt ≤ n) (H : Heap) (locs : List Loc) (ls : Array Slot), WS G cI cJ cZ cD cR cT A kp L f1653 s H locs → FM kp L ms_X12_readText f0 f1653 → lv_has ls 4 [(3, .int y1666), (2, .int x242), (0, .ref h0), (1, .int u1)] → W p l e ({ frames := 9, cells := 0, slots := 0, locals := 212 }) s m ([.ref h0, .int u1] : List Value).toArray below meth c H locs 0 0 (MQ below (QT (po_X12_readText kp L f0 h0 u1) G cI cJ cZ cD cR cT A kp L) ([.ref h0, .int u1] : List Value).toArray s 0 0 A) (F0 m 109 ls []) := by
                  intro n
                  induction n with
                  | zero =>
                    intro f1653 y1666 m1654 m1655 m1656 m1657 m1658 m1659 m1660 m1661 m1662 m1663 m1664 m1665 b1667 z1668 v1669 v1671 v1670 hm H locs ls hW hF hl
                    have hz := i32_b y1666
                    exfalso; omega
                  | succ n ih =>
                    intro f1653 y1666 m1654 m1655 m1656 m1657 m1658 m1659 m1660 m1661 m1662 m1663 m1664 m1665 b1667 z1668 v1669 v1671 v1670 hm H locs ls hW hF hl
                    clear c218
                    have ih109 := ih
                    refine lv_iload_n hx hb dX12_readText_109 rfl (lv_at hl 0 rfl) ?_
                    refine lv_bipush (v := 8) hx hb dX12_readText_110 (by decide) ?_
                    refine lv_aload_n hx hb dX12_readText_112 rfl (lv_at hl 2 rfl) ?_
                    refine fg_RX12_356 E hW rh0 dX12_readText_113 (fun y1673 m1674 b1675 => ?_)
                    obtain rfl : y180 = y1673 := (m1661).symm.trans m1674
                    refine q_imul (X := 8) hx hb dX12_readText_116 rfl rfl (by omega) (fun x1676 h1677 => ?_)
                    refine q_icmp_ge (tgt := 142) hx hb dX12_readText_117 (by decide) rfl rfl (fun c1678 => ?_) (fun c1678 => ?_)
                    · refine lv_iconst (v := 0) hx hb dX12_readText_142 (by decide) ?_
                      refine lv_istore_n (lv' := [(3, .int 0), (2, .int x242), (0, .ref h0), (1, .int u1)]) hx hb dX12_readText_143 rfl hl (by decide) rfl (fun ls hl => ?_)
                      have L5010 : ∀ (n : Nat), ∀ (f4991 : Nat → va_E) (y5004 : Int32) (m4992 : oR (f4991 h0) 2 = pR) (m4993 : oI (f4991 h0) 12 = pF12) (m4994 : oI (f4991 h0) 13 = y165) (m4995 : oI (f4991 h0) 14 = y168) (m4996 : oI (f4991 h0) 15 = y171) (m4997 : oJ (f4991 h0) 16 = y174) (m4998 : oI (f4991 h0) 18 = y177) (m4999 : oI (f4991 h0) 19 = y180) (m5000 : oI (f4991 h0) 21 = y183) (m5001 : oI (f4991 h0) 24 = y186) (m5002 : oI (f4991 h0) 27 = y189) (m5003 : aI (f4991 pR) (3 : Int32).toNatClampNeg = p3) (b5005 : (0 : Int) ≤ y5004.toInt ∧ y5004.toInt ≤ 400) (z5006 : RF rw_X12_readText f0 f4991 h0) (v5007 : y5004.toInt ≤ y183.toInt) (v5009 : vN f4991 h0 = cN ∧ vO f4991 h0 = cO ∧ vA f4991 h0 = cA) (v5008 : TB (aI (f4991 pR)) (aI (f0 pR)) cN cO cA x242.toInt y180.toInt (8 * y180.toInt) y5004.toInt) (hm : (401 : Int) - y5004.toInt ≤ n) (H : Heap) (locs : List Loc) (ls : Array Slot), WS G cI cJ cZ cD cR cT A kp L f4991 s H locs → FM kp L ms_X12_readText f0 f4991 → lv_has ls 4 [(3, .int y5004), (2, .int x242), (0, .ref h0), (1, .int u1)] → W p l e ({ frames := 9, cells := 0, slots := 0, locals := 212 }) s m ([.ref h0, .int u1] : List Value).toArray below meth c H locs 0 0 (MQ below (QT (po_X12_readText kp L f0 h0 u1) G cI cJ cZ cD cR cT A kp L) ([.ref h0, .int u1] : List Value).toArray s 0 0 A) (F0 m 144 ls []) := by
                        intro n
                        induction n with
                        | zero =>
                          intro f4991 y5004 m4992 m4993 m4994 m4995 m4996 m4997 m4998 m4999 m5000 m5001 m5002 m5003 b5005 z5006 v5007 v5009 v5008 hm H locs ls hW hF hl
                          have hz := i32_b y5004
                          exfalso; omega
                        | succ n ih =>
                          intro f4991 y5004 m4992 m4993 m4994 m4995 m4996 m4997 m4998 m4999 m5000 m5001 m5002 m5003 b5005 z5006 v5007 v5009 v5008 hm H locs ls hW hF hl
                          have ih144 := ih
                          refine lv_iload_n hx hb dX12_readText_144 rfl (lv_at hl 0 rfl) ?_
                          refine lv_aload_n hx hb dX12_readText_145 rfl (lv_at hl 2 rfl) ?_
                          refine fg_RX12_229 E hW rh0 dX12_readText_146 (fun y5011 m5012 b5013 => ?_)
                          obtain rfl : y183 = y5011 := (m5000).symm.trans m5012
                          refine q_icmp_ge (tgt := 198) hx hb dX12_readText_149 (by decide) rfl rfl (fun c5014 => ?_) (fun c5014 => ?_)
                          · refine lv_aload_n hx hb dX12_readText_198 rfl (lv_at hl 2 rfl) ?_
                            refine fg_RX12_8 E hW rh0 dX12_readText_199 (fun a5015 m5016 r5017 => ?_)
                            obtain rfl : pR = a5015 := (m4992).symm.trans m5016
                            refine lv_iconst (v := 3) hx hb dX12_readText_202 (by decide) ?_
                            refine lv_dup2_11 hx hb dX12_readText_203 rfl rfl ?_
                            refine gl_822 E hW rR (by decide) dX12_readText_204 (fun y5018 m5019 b5020 => ?_)
                            obtain rfl : p3 = y5018 := (m5003).symm.trans m5019
                            refine lv_iconst (v := 1) hx hb dX12_readText_205 (by decide) ?_
                            refine q_iadd (Y := 1) hx hb dX12_readText_206 rfl rfl (by omega) (fun x5021 h5022 => ?_)
                            have hk5023 : (3 : Int32).toInt = 3 := rfl
                            have hw5028 := hW.2.2.2
                            refine gs_822 E hW rR (by decide) (fun hc => rr_up2 hc (by omega) (by unfold rbI; omega)) dX12_readText_207 (fun f5024 H locs e5025 n5026 g5027 hW => ?_)
                            have z5029 : RF rw_X12_readText f0 f5024 h0 := rf_st (lo := 3) (hi := 3) z5006 mR e5025 (by decide) rfl
                            have z5030 : vN f5024 h0 = cN ∧ vO f5024 h0 = cO ∧ vA f5024 h0 = cA := cn_keep v5009 hw5028 g5027 rh0 rfl rfl rfl
                            have hF := FM.tr hF g5027 rfl
                            have z5031 : TX (aI (f5024 pR)) := tx_new (p3 := p3) hTX (by have q := mp3; rwa [show (3 : Int32).toNatClampNeg = 3 from by decide] at q) (by omega) (by omega) v5008 hCL (by omega) rfl (by omega) (by omega) e5025 (by omega)
                            refine lv_iconst (v := 1) hx hb dX12_readText_208 (by decide) ?_
                            exact e_Z E hW rfl (by decide) ⟨⟨_, rfl, (by have hk : (1 : Int32).toInt = 1 := rfl; first | decide | omega)⟩, hF, (fun q => not_zero q), (fun _ => by rw [mR]; exact z5031), z5029⟩ dX12_readText_209
                          · refine lv_aload_n hx hb dX12_readText_152 rfl (lv_at hl 2 rfl) ?_
                            refine fg_RX12_8 E hW rh0 dX12_readText_153 (fun a5032 m5033 r5034 => ?_)
                            obtain rfl : pR = a5032 := (m4992).symm.trans m5033
                            refine lv_iload_n hx hb dX12_readText_156 rfl (lv_at hl 1 rfl) ?_
                            refine lv_bipush (v := 98) hx hb dX12_readText_157 (by decide) ?_
                            refine q_iadd (Y := 98) hx hb dX12_readText_159 rfl rfl (by omega) (fun x5035 h5036 => ?_)
                            refine lv_iconst (v := 2) hx hb dX12_readText_160 (by decide) ?_
                            refine lv_iload_n hx hb dX12_readText_161 rfl (lv_at hl 0 rfl) ?_
                            refine q_imul (X := 2) hx hb dX12_readText_162 rfl rfl (by omega) (fun x5037 h5038 => ?_)
                            refine q_iadd hx hb dX12_readText_163 rfl rfl (by omega) (fun x5039 h5040 => ?_)
                            refine lv_aload_n hx hb dX12_readText_164 rfl (lv_at hl 2 rfl) ?_
                            refine fg_RX12_42 E hW rh0 dX12_readText_165 (fun a5041 m5042 r5043 => ?_)
                            refine lv_iload_n hx hb dX12_readText_168 rfl (lv_at hl 0 rfl) ?_
                            refine gl_842 E hW r5043 ⟨by omega, by omega⟩ dX12_readText_169 (fun y5044 m5045 => ?_)
                            have m5047 : aI (f4991 a5041) (y5004 : Int32).toNatClampNeg = y5044 := m5045
                            have z5048 : vN f4991 h0 = cN ∧ vO f4991 h0 = cO ∧ vA f4991 h0 = cA := v5009
                            have hw5053 := hW.2.2.2
                            refine gs_822 E hW rR ⟨by omega, by omega⟩ (fun hc => rr_up2 hc (by omega) (rb_free (by omega))) dX12_readText_170 (fun f5049 H locs e5050 n5051 g5052 hW => ?_)
                            have z5054 : RF rw_X12_readText f0 f5049 h0 := rf_st (lo := 18080) (hi := 35940) z5006 mR e5050 (by omega) rfl
                            have z5055 : vN f5049 h0 = cN ∧ vO f5049 h0 = cO ∧ vA f5049 h0 = cA := cn_keep v5009 hw5053 g5052 rh0 rfl rfl rfl
                            have hF := FM.tr hF g5052 rfl
                            refine lv_aload_n hx hb dX12_readText_171 rfl (lv_at hl 2 rfl) ?_
                            refine fg_RX12_8 E hW rh0 dX12_readText_172 (fun a5056 m5057 r5058 => ?_)
                            obtain rfl : pR = a5056 := (((fm_R g5052 rh0 rfl).trans m5033)).symm.trans m5057
                            refine lv_iload_n hx hb dX12_readText_175 rfl (lv_at hl 1 rfl) ?_
                            refine lv_bipush (v := 98) hx hb dX12_readText_176 (by decide) ?_
                            refine q_iadd (Y := 98) hx hb dX12_readText_178 rfl rfl (by omega) (fun x5059 h5060 => ?_)
                            refine lv_iconst (v := 2) hx hb dX12_readText_179 (by decide) ?_
                            refine lv_iload_n hx hb dX12_readText_180 rfl (lv_at hl 0 rfl) ?_
                            refine q_imul (X := 2) hx hb dX12_readText_181 rfl rfl (by omega) (fun x5061 h5062 => ?_)
                            refine q_iadd hx hb dX12_readText_182 rfl rfl (by omega) (fun x5063 h5064 => ?_)
                            refine lv_iconst (v := 1) hx hb dX12_readText_183 (by decide) ?_
                            refine q_iadd (Y := 1) hx hb dX12_readText_184 rfl rfl (by omega) (fun x5065 h5066 => ?_)
                            refine lv_aload_n hx hb dX12_readText_185 rfl (lv_at hl 2 rfl) ?_
                            refine fg_RX12_45 E hW rh0 dX12_readText_186 (fun a5067 m5068 r5069 => ?_)
                            refine lv_iload_n hx hb dX12_readText_189 rfl (lv_at hl 0 rfl) ?_
                            refine gl_843 E hW r5069 ⟨by omega, by omega⟩ dX12_readText_190 (fun y5070 m5071 => ?_)
                            have m5073 : aI (f5049 a5067) (y5004 : Int32).toNatClampNeg = y5070 := m5071
                            have z5074 : vN f5049 h0 = cN ∧ vO f5049 h0 = cO ∧ vA f5049 h0 = cA := z5055
                            have hw5079 := hW.2.2.2
                            refine gs_822 E hW rR ⟨by omega, by omega⟩ (fun hc => rr_up2 hc (by omega) (rb_free (by omega))) dX12_readText_191 (fun f5075 H locs e5076 n5077 g5078 hW => ?_)
                            have m5080 : aI (f5075 a5041) (y5004 : Int32).toNatClampNeg = y5044 := ((congrArg (fun z => aI z (y5004 : Int32).toNatClampNeg) (fm_A g5078 r5043 (by decide) rfl)).trans ((congrArg (fun z => aI z (y5004 : Int32).toNatClampNeg) (fm_A g5052 r5043 (by decide) rfl)).trans m5045))
                            have z5081 : RF rw_X12_readText f0 f5075 h0 := rf_st (lo := 18081) (hi := 35941) z5054 mR e5076 (by omega) rfl
                            have z5082 : vN f5075 h0 = cN ∧ vO f5075 h0 = cO ∧ vA f5075 h0 = cA := cn_keep z5055 hw5079 g5078 rh0 rfl rfl rfl
                            have hF := FM.tr hF g5078 rfl
                            refine q_iinc hx hb dX12_readText_192 hl (k := 0) rfl rfl rfl (by omega) (by decide) (fun i5083 ls h5084 hl => ?_)
                            have hl : lv_has ls 4 [(3, .int i5083), (2, .int x242), (0, .ref h0), (1, .int u1)] := hl
                            refine lv_goto (tgt := 144) hx hb dX12_readText_195 (by decide) ?_
                            exact ih144 f5075 i5083 ((fm_R g5078 rh0 rfl).trans m5057) ((fm_I g5078 rh0 rfl).trans ((fm_I g5052 rh0 rfl).trans m4993)) ((fm_I g5078 rh0 rfl).trans ((fm_I g5052 rh0 rfl).trans m4994)) ((fm_I g5078 rh0 rfl).trans ((fm_I g5052 rh0 rfl).trans m4995)) ((fm_I g5078 rh0 rfl).trans ((fm_I g5052 rh0 rfl).trans m4996)) ((fm_J g5078 rh0 rfl).trans ((fm_J g5052 rh0 rfl).trans m4997)) ((fm_I g5078 rh0 rfl).trans ((fm_I g5052 rh0 rfl).trans m4998)) ((fm_I g5078 rh0 rfl).trans ((fm_I g5052 rh0 rfl).trans m4999)) ((fm_I g5078 rh0 rfl).trans ((fm_I g5052 rh0 rfl).trans m5012)) ((fm_I g5078 rh0 rfl).trans ((fm_I g5052 rh0 rfl).trans m5001)) ((fm_I g5078 rh0 rfl).trans ((fm_I g5052 rh0 rfl).trans m5002)) (show aI (f5075 pR) (3 : Int32).toNatClampNeg = p3 from by rw [e5076, up_n (tn_ne (by omega) (by decide) (by have hk0 : (3 : Int32).toInt = 3 := rfl; omega))]; exact (show aI (f5049 pR) (3 : Int32).toNatClampNeg = p3 from by rw [e5050, up_n (tn_ne (by omega) (by decide) (by have hk0 : (3 : Int32).toInt = 3 := rfl; omega))]; exact m5003)) (by omega) z5081 (by omega) z5082 (tb_cd v5008 e5050 (by omega) e5076 (by omega) rfl (by omega) (by omega) (by omega) (by rw [← z5048.2.1]; unfold vO; rw [m5042]; exact m5047) (by rw [← z5074.2.2]; unfold vA; rw [m5068]; exact m5073) (by omega)) (by omega) _ _ _ hW hF (lv_sub hl [0, 1, 2, 3] rfl)
                      have hk5085 : (0 : Int32).toInt = 0 := rfl
                      exact L5010 401 f1653 0 m1654 m1655 m1656 m1657 m1658 m1659 m1660 m1674 m1662 m1663 m1664 m1665 (by decide) z1668 (by omega) v1671 (by have hk : (0 : Int32).toInt = 0 := rfl; have q : (8 * y180.toInt : Int) = y1666.toInt := (by omega); rw [hk, q]; exact v1670) (by omega) _ _ _ hW hF (lv_sub hl [0, 1, 2, 3] rfl)
                    · refine lv_aload_n hx hb dX12_readText_120 rfl (lv_at hl 2 rfl) ?_
                      refine fg_RX12_8 E hW rh0 dX12_readText_121 (fun a5086 m5087 r5088 => ?_)
                      obtain rfl : pR = a5086 := (m1654).symm.trans m5087
                      refine lv_iload_n hx hb dX12_readText_124 rfl (lv_at hl 1 rfl) ?_
                      refine lv_iconst (v := 2) hx hb dX12_readText_125 (by decide) ?_
                      refine q_iadd (Y := 2) hx hb dX12_readText_126 rfl rfl (by omega) (fun x5089 h5090 => ?_)
                      refine lv_iload_n hx hb dX12_readText_127 rfl (lv_at hl 0 rfl) ?_
                      refine q_iadd hx hb dX12_readText_128 rfl rfl (by omega) (fun x5091 h5092 => ?_)
                      refine lv_aload_n hx hb dX12_readText_129 rfl (lv_at hl 2 rfl) ?_
                      refine fg_RX12_39 E hW rh0 dX12_readText_130 (fun a5093 m5094 r5095 => ?_)
                      refine lv_iload_n hx hb dX12_readText_133 rfl (lv_at hl 0 rfl) ?_
                      refine gl_840 E hW r5095 ⟨by omega, by omega⟩ dX12_readText_134 (fun y5096 m5097 => ?_)
                      have m5099 : aI (f1653 a5093) (y1666 : Int32).toNatClampNeg = y5096 := m5097
                      have z5100 : vN f1653 h0 = cN ∧ vO f1653 h0 = cO ∧ vA f1653 h0 = cA := v1671
                      have hw5105 := hW.2.2.2
                      refine gs_822 E hW rR ⟨by omega, by omega⟩ (fun hc => rr_up2 hc (by omega) (rb_free (by omega))) dX12_readText_135 (fun f5101 H locs e5102 n5103 g5104 hW => ?_)
                      have z5106 : RF rw_X12_readText f0 f5101 h0 := rf_st (lo := 17984) (hi := 35141) z1668 mR e5102 (by omega) rfl
                      have z5107 : vN f5101 h0 = cN ∧ vO f5101 h0 = cO ∧ vA f5101 h0 = cA := cn_keep v1671 hw5105 g5104 rh0 rfl rfl rfl
                      have hF := FM.tr hF g5104 rfl
                      refine q_iinc hx hb dX12_readText_136 hl (k := 0) rfl rfl rfl (by omega) (by decide) (fun i5108 ls h5109 hl => ?_)
                      have hl : lv_has ls 4 [(3, .int i5108), (2, .int x242), (0, .ref h0), (1, .int u1)] := hl
                      refine lv_goto (tgt := 109) hx hb dX12_readText_139 (by decide) ?_
                      exact ih109 f5101 i5108 ((fm_R g5104 rh0 rfl).trans m5087) ((fm_I g5104 rh0 rfl).trans m1655) ((fm_I g5104 rh0 rfl).trans m1656) ((fm_I g5104 rh0 rfl).trans m1657) ((fm_I g5104 rh0 rfl).trans m1658) ((fm_J g5104 rh0 rfl).trans m1659) ((fm_I g5104 rh0 rfl).trans m1660) ((fm_I g5104 rh0 rfl).trans m1674) ((fm_I g5104 rh0 rfl).trans m1662) ((fm_I g5104 rh0 rfl).trans m1663) ((fm_I g5104 rh0 rfl).trans m1664) (show aI (f5101 pR) (3 : Int32).toNatClampNeg = p3 from by rw [e5102, up_n (tn_ne (by omega) (by decide) (by have hk0 : (3 : Int32).toInt = 3 := rfl; omega))]; exact m1665) (by omega) z5106 (by omega) z5107 (tb_cl v1670 e5102 (by omega) rfl (by omega) (by omega) (by rw [← z5100.1]; unfold vN; rw [m5094]; exact m5099) (by omega)) (by omega) _ _ _ hW hF (lv_sub hl [0, 1, 2, 3] rfl)
                have hk5110 : (0 : Int32).toInt = 0 := rfl
                exact L1672 97 f265 0 ((fm_R g268 rh0 rfl).trans m258) ((fm_I g268 rh0 rfl).trans ((fm_I g252 rh0 rfl).trans ((fm_I g241 rh0 rfl).trans ((fm_I g213 rh0 rfl).trans m163)))) ((fm_I g268 rh0 rfl).trans ((fm_I g252 rh0 rfl).trans ((fm_I g241 rh0 rfl).trans ((fm_I g213 rh0 rfl).trans m166)))) ((fm_I g268 rh0 rfl).trans ((fm_I g252 rh0 rfl).trans ((fm_I g241 rh0 rfl).trans ((fm_I g213 rh0 rfl).trans m169)))) ((fm_I g268 rh0 rfl).trans ((fm_I g252 rh0 rfl).trans ((fm_I g241 rh0 rfl).trans m224))) ((fm_J g268 rh0 rfl).trans ((fm_J g252 rh0 rfl).trans ((fm_J g241 rh0 rfl).trans ((fm_J g213 rh0 rfl).trans m175)))) ((fm_I g268 rh0 rfl).trans ((fm_I g252 rh0 rfl).trans ((fm_I g241 rh0 rfl).trans m228))) ((fm_I g268 rh0 rfl).trans m263) ((fm_I g268 rh0 rfl).trans ((fm_I g252 rh0 rfl).trans ((fm_I g241 rh0 rfl).trans ((fm_I g213 rh0 rfl).trans m184)))) ((fm_I g268 rh0 rfl).trans ((fm_I g252 rh0 rfl).trans ((fm_I g241 rh0 rfl).trans ((fm_I g213 rh0 rfl).trans m187)))) ((fm_I g268 rh0 rfl).trans ((fm_I g252 rh0 rfl).trans ((fm_I g241 rh0 rfl).trans ((fm_I g213 rh0 rfl).trans m190)))) (show aI (f265 pR) (3 : Int32).toNatClampNeg = p3 from by rw [e266, up_n (tn_ne (by omega) (by decide) (by have hk0 : (3 : Int32).toInt = 3 := rfl; omega))]; exact (show aI (f249 pR) (3 : Int32).toNatClampNeg = p3 from by rw [e250, up_n (tn_ne (by omega) (by decide) (by have hk0 : (3 : Int32).toInt = 3 := rfl; omega))]; exact ((congrArg (fun z => aI z (3 : Int32).toNatClampNeg) (fm_A g241 rR (by decide) rfl)).trans m235))) (by decide) z270 (by omega) z271 (by have hk : (0 : Int32).toInt = 0 := rfl; rw [hk]; exact z272) (by omega) _ _ _ hW hF (lv_sub hl [0, 1, 2, 3] rfl)
              · exfalso; omega
            · refine lv_aload_n hx hb dX12_readText_64 rfl (lv_at hl 0 rfl) ?_
              refine lv_iconst (v := 0) hx hb dX12_readText_65 (by decide) ?_
              have hw5115 := hW.2.2.2
              refine t_callV (As := [.int 0]) (rest := []) E hW (c_X12_must l G cI cJ cZ cD cR cT kp L f210 hW.2.2.2 _ h0 0 rh0 (by decide) (by have hkq5111 : (0 : Int32).toInt = 0 := rfl; simp only [((fm_I g213 rh0 rfl).trans m163), ((fm_I g213 rh0 rfl).trans m166), ((fm_I g213 rh0 rfl).trans m169), m224, ((fm_J g213 rh0 rfl).trans m175), and_true, true_and, true_or, or_true, false_or, or_false] <;> omega)) rh0 (by decide) rfl wk_X12_must tw_1807 rfl ⟨Nat.le_of_ble_eq_true rfl, Nat.le_of_ble_eq_true rfl⟩ ⟨rfl, rfl⟩ hl.1 rfl (Nat.le_of_ble_eq_true rfl) dX12_readText_66 ⟨Nat.le_of_ble_eq_true rfl, Nat.le_of_ble_eq_true rfl⟩ (fun v5112 f5113 H locs q5114 hW => ?_)
              obtain ⟨rfl, g5116, h5117⟩ := q5114
              have m5118 : aI (f5113 pR) (3 : Int32).toNatClampNeg = p3 := ((congrArg (fun z => aI z (3 : Int32).toNatClampNeg) (fm_A g5116 rR (by decide) rfl)).trans ((congrArg (fun z => aI z (3 : Int32).toNatClampNeg) (fm_A g213 rR (by decide) rfl)).trans m164))
              have z5119 : RF rw_X12_readText f0 f5113 h0 := rf_fm hTH z216 g5116 rh0 rfl
              have hF := FM.tr hF g5116 rfl
              have hk5120 : (0 : Int32).toInt = 0 := rfl
              obtain ⟨y5121, m5122⟩ : ∃ x : Int32, oI (f5113 h0) 13 = x := ⟨_, rfl⟩
              have b5123 : (0 : Int) ≤ y5121.toInt ∧ y5121.toInt ≤ 400 := by rw [← m5122]; exact th_iv hW rh0 (by decide) (by decide) rfl
              obtain ⟨y5124, m5125⟩ : ∃ x : Int32, oI (f5113 h0) 14 = x := ⟨_, rfl⟩
              have b5126 : (0 : Int) ≤ y5124.toInt ∧ y5124.toInt ≤ 400 := by rw [← m5125]; exact th_iv hW rh0 (by decide) (by decide) rfl
              obtain ⟨y5127, m5128⟩ : ∃ x : Int32, oI (f5113 h0) 15 = x := ⟨_, rfl⟩
              have b5129 : (0 : Int) ≤ y5127.toInt ∧ y5127.toInt ≤ 3 := by rw [← m5128]; exact th_iv hW rh0 (by decide) (by decide) rfl
              obtain ⟨y5130, m5131⟩ : ∃ x : Int32, oI (f5113 h0) 18 = x := ⟨_, rfl⟩
              have b5132 : (0 : Int) ≤ y5130.toInt ∧ y5130.toInt ≤ 1 := by rw [← m5131]; exact th_iv hW rh0 (by decide) (by decide) rfl
              obtain ⟨y5133, m5134⟩ : ∃ x : Int64, oJ (f5113 h0) 16 = x := ⟨_, rfl⟩
              simp only [((fm_I g5116 rh0 rfl).trans ((fm_I g213 rh0 rfl).trans m163)), ((fm_I g213 rh0 rfl).trans m163), m5122, ((fm_I g213 rh0 rfl).trans m166), m5125, ((fm_I g213 rh0 rfl).trans m169), m5128, m224, m5131, m220, m5134, ((fm_J g213 rh0 rfl).trans m175)] at h5117
              refine lv_aload_n hx hb dX12_readText_69 rfl (lv_at hl 0 rfl) ?_
              refine fg_RX12_193 E hW rh0 dX12_readText_70 (fun y5135 m5136 b5137 => ?_)
              obtain rfl : y5130 = y5135 := (m5131).symm.trans m5136
              refine q_if_eq (tgt := 78) hx hb dX12_readText_73 (by decide) rfl (fun c5138 => ?_) (fun c5138 => ?_)
              · refine lv_aload_n hx hb dX12_readText_78 rfl (lv_at hl 0 rfl) ?_
                refine fg_RX12_8 E hW rh0 dX12_readText_79 (fun a5139 m5140 r5141 => ?_)
                obtain rfl : pR = a5139 := (((fm_R g5116 rh0 rfl).trans ((fm_R g213 rh0 rfl).trans m162))).symm.trans m5140
                refine lv_iconst (v := 3) hx hb dX12_readText_82 (by decide) ?_
                refine gl_822 E hW rR (by decide) dX12_readText_83 (fun y5142 m5143 b5144 => ?_)
                obtain rfl : p3 = y5142 := (m5118).symm.trans m5143
                have hw5148 := hW.2.2.2
                refine t_callS (As := [.int p3]) (rest := []) E hW (c_X12_textAt l G cI cJ cZ cD cR cT kp L f5113 hW.2.2.2 _ p3 (by omega)) wk_X12_textAt tw_1655 rfl ⟨Nat.le_of_ble_eq_true rfl, Nat.le_of_ble_eq_true rfl⟩ ⟨rfl, rfl⟩ hl.1 rfl (Nat.le_of_ble_eq_true rfl) dX12_readText_84 ⟨Nat.le_of_ble_eq_true rfl, Nat.le_of_ble_eq_true rfl⟩ (fun v5145 f5146 H locs q5147 hW => ?_)
                obtain ⟨⟨x5150, rfl, p5151⟩, g5149⟩ := q5147
                have z5152 : RF rw_X12_readText f0 f5146 h0 := rf_fm hTH z5119 g5149 rh0 rfl
                have hF := FM.tr hF g5149 rfl
                refine lv_istore_n (lv' := [(2, .int x5150), (0, .ref h0), (1, .int u1)]) hx hb dX12_readText_87 rfl hl (by decide) rfl (fun ls hl => ?_)
                refine lv_aload_n hx hb dX12_readText_88 rfl (lv_at hl 1 rfl) ?_
                refine fg_RX12_8 E hW rh0 dX12_readText_89 (fun a5153 m5154 r5155 => ?_)
                obtain rfl : pR = a5153 := (((fm_R g5149 rh0 rfl).trans m5140)).symm.trans m5154
                refine lv_iload_n hx hb dX12_readText_92 rfl (lv_at hl 0 rfl) ?_
                refine lv_iload_n hx hb dX12_readText_93 rfl (lv_at hl 2 rfl) ?_
                obtain ⟨cN, ecN⟩ : ∃ x, x = vN f5146 h0 := ⟨_, rfl⟩
                obtain ⟨cO, ecO⟩ : ∃ x, x = vO f5146 h0 := ⟨_, rfl⟩
                obtain ⟨cA, ecA⟩ : ∃ x, x = vA f5146 h0 := ⟨_, rfl⟩
                have hCL : CLs cO cA cN y183.toInt y180.toInt := by exfalso; omega
                have hw5160 := hW.2.2.2
                refine gs_822 E hW rR ⟨by omega, by omega⟩ (fun hc => rr_up2 hc (by omega) (rb_free (by omega))) dX12_readText_94 (fun f5156 H locs e5157 n5158 g5159 hW => ?_)
                have z5161 : RF rw_X12_readText f0 f5156 h0 := rf_st (lo := 17982) (hi := 35044) z5152 mR e5157 (by omega) rfl
                have z5162 : vN f5156 h0 = cN ∧ vO f5156 h0 = cO ∧ vA f5156 h0 = cA := cn_keep ⟨ecN.symm, ecO.symm, ecA.symm⟩ hw5160 g5159 rh0 rfl rfl rfl
                have hF := FM.tr hF g5159 rfl
                have z5163 : aI (f5156 pR) = upd (aI (f0 pR)) (x5150 : Int32).toNatClampNeg u1 := by rw [e5157, ((congrArg aI (fm_A g5149 rR (by decide) rfl)).trans ((congrArg aI (fm_A g5116 rR (by decide) rfl)).trans ((congrArg aI (fm_A g213 rR (by decide) rfl)).trans z192)))]
                refine lv_aload_n hx hb dX12_readText_95 rfl (lv_at hl 1 rfl) ?_
                refine fg_RX12_8 E hW rh0 dX12_readText_96 (fun a5164 m5165 r5166 => ?_)
                obtain rfl : pR = a5164 := (((fm_R g5159 rh0 rfl).trans m5154)).symm.trans m5165
                refine lv_iload_n hx hb dX12_readText_99 rfl (lv_at hl 0 rfl) ?_
                refine lv_iconst (v := 1) hx hb dX12_readText_100 (by decide) ?_
                refine q_iadd (Y := 1) hx hb dX12_readText_101 rfl rfl (by omega) (fun x5167 h5168 => ?_)
                refine lv_aload_n hx hb dX12_readText_102 rfl (lv_at hl 1 rfl) ?_
                refine fg_RX12_356 E hW rh0 dX12_readText_103 (fun y5169 m5170 b5171 => ?_)
                obtain rfl : y180 = y5169 := (((fm_I g5159 rh0 rfl).trans ((fm_I g5149 rh0 rfl).trans ((fm_I g5116 rh0 rfl).trans ((fm_I g213 rh0 rfl).trans m181))))).symm.trans m5170
                have hw5176 := hW.2.2.2
                refine gs_822 E hW rR ⟨by omega, by omega⟩ (fun hc => rr_up2 hc (by omega) (rb_free (by omega))) dX12_readText_106 (fun f5172 H locs e5173 n5174 g5175 hW => ?_)
                have z5177 : RF rw_X12_readText f0 f5172 h0 := rf_st (lo := 17983) (hi := 35045) z5161 mR e5173 (by omega) rfl
                have z5178 : vN f5172 h0 = cN ∧ vO f5172 h0 = cO ∧ vA f5172 h0 = cA := cn_keep z5162 hw5176 g5175 rh0 rfl rfl rfl
                have hF := FM.tr hF g5175 rfl
                have z5179 : TB (aI (f5172 pR)) (aI (f0 pR)) cN cO cA x5150.toInt y180.toInt 0 0 := tb_0 z5163 rfl e5173 (by omega) rfl (by omega)
                refine lv_iconst (v := 0) hx hb dX12_readText_107 (by decide) ?_
                refine lv_istore_n (lv' := [(3, .int 0), (2, .int x5150), (0, .ref h0), (1, .int u1)]) hx hb dX12_readText_108 rfl hl (by decide) rfl (fun ls hl => ?_)
                have L6579 : ∀ (n : Nat), ∀ (f6560 : Nat → va_E) (y6573 : Int32) (m6561 : oR (f6560 h0) 2 = pR) (m6562 : oI (f6560 h0) 12 = pF12) (m6563 : oI (f6560 h0) 13 = y5121) (m6564 : oI (f6560 h0) 14 = y5124) (m6565 : oI (f6560 h0) 15 = y5127) (m6566 : oJ (f6560 h0) 16 = y5133) (m6567 : oI (f6560 h0) 18 = y5130) (m6568 : oI (f6560 h0) 19 = y180) (m6569 : oI (f6560 h0) 21 = y183) (m6570 : oI (f6560 h0) 24 = y186) (m6571 : oI (f6560 h0) 27 = y189) (m6572 : aI (f6560 pR) (3 : Int32).toNatClampNeg = p3) (b6574 : (0 : Int) ≤ y6573.toInt ∧ y6573.toInt ≤ 96) (z6575 : RF rw_X12_readText f0 f6560 h0) (v6576 : y6573.toInt ≤ 8 * y180.toInt) (v6578 : vN f6560 h0 = cN ∧ vO f6560 h0 = cO ∧ vA f6560 h0 = cA) (v6577 : TB (aI (f6560 pR)) (aI (f0 pR)) cN cO cA x5150.toInt y180.toInt y6573.toInt 0) (hm : (97 : Int) - y6573.toInt ≤ n) (H : Heap) (locs : List Loc) (ls : Array Slot), WS G cI cJ cZ cD cR cT A kp L f6560 s H locs → FM kp L ms_X12_readText f0 f6560 → lv_has ls 4 [(3, .int y6573), (2, .int x5150), (0, .ref h0), (1, .int u1)] → W p l e ({ frames := 9, cells := 0, slots := 0, locals := 212 }) s m ([.ref h0, .int u1] : List Value).toArray below meth c H locs 0 0 (MQ below (QT (po_X12_readText kp L f0 h0 u1) G cI cJ cZ cD cR cT A kp L) ([.ref h0, .int u1] : List Value).toArray s 0 0 A) (F0 m 109 ls []) := by
                  intro n
                  induction n with
                  | zero =>
                    intro f6560 y6573 m6561 m6562 m6563 m6564 m6565 m6566 m6567 m6568 m6569 m6570 m6571 m6572 b6574 z6575 v6576 v6578 v6577 hm H locs ls hW hF hl
                    have hz := i32_b y6573
                    exfalso; omega
                  | succ n ih =>
                    intro f6560 y6573 m6561 m6562 m6563 m6564 m6565 m6566 m6567 m6568 m6569 m6570 m6571 m6572 b6574 z6575 v6576 v6578 v6577 hm H locs ls hW hF hl
                    clear c218
                    have ih109 := ih
                    refine lv_iload_n hx hb dX12_readText_109 rfl (lv_at hl 0 rfl) ?_
                    refine lv_bipush (v := 8) hx hb dX12_readText_110 (by decide) ?_
                    refine lv_aload_n hx hb dX12_readText_112 rfl (lv_at hl 2 rfl) ?_
                    refine fg_RX12_356 E hW rh0 dX12_readText_113 (fun y6580 m6581 b6582 => ?_)
                    obtain rfl : y180 = y6580 := (m6568).symm.trans m6581
                    refine q_imul (X := 8) hx hb dX12_readText_116 rfl rfl (by omega) (fun x6583 h6584 => ?_)
                    refine q_icmp_ge (tgt := 142) hx hb dX12_readText_117 (by decide) rfl rfl (fun c6585 => ?_) (fun c6585 => ?_)
                    · refine lv_iconst (v := 0) hx hb dX12_readText_142 (by decide) ?_
                      refine lv_istore_n (lv' := [(3, .int 0), (2, .int x5150), (0, .ref h0), (1, .int u1)]) hx hb dX12_readText_143 rfl hl (by decide) rfl (fun ls hl => ?_)
                      have L9917 : ∀ (n : Nat), ∀ (f9898 : Nat → va_E) (y9911 : Int32) (m9899 : oR (f9898 h0) 2 = pR) (m9900 : oI (f9898 h0) 12 = pF12) (m9901 : oI (f9898 h0) 13 = y5121) (m9902 : oI (f9898 h0) 14 = y5124) (m9903 : oI (f9898 h0) 15 = y5127) (m9904 : oJ (f9898 h0) 16 = y5133) (m9905 : oI (f9898 h0) 18 = y5130) (m9906 : oI (f9898 h0) 19 = y180) (m9907 : oI (f9898 h0) 21 = y183) (m9908 : oI (f9898 h0) 24 = y186) (m9909 : oI (f9898 h0) 27 = y189) (m9910 : aI (f9898 pR) (3 : Int32).toNatClampNeg = p3) (b9912 : (0 : Int) ≤ y9911.toInt ∧ y9911.toInt ≤ 400) (z9913 : RF rw_X12_readText f0 f9898 h0) (v9914 : y9911.toInt ≤ y183.toInt) (v9916 : vN f9898 h0 = cN ∧ vO f9898 h0 = cO ∧ vA f9898 h0 = cA) (v9915 : TB (aI (f9898 pR)) (aI (f0 pR)) cN cO cA x5150.toInt y180.toInt (8 * y180.toInt) y9911.toInt) (hm : (401 : Int) - y9911.toInt ≤ n) (H : Heap) (locs : List Loc) (ls : Array Slot), WS G cI cJ cZ cD cR cT A kp L f9898 s H locs → FM kp L ms_X12_readText f0 f9898 → lv_has ls 4 [(3, .int y9911), (2, .int x5150), (0, .ref h0), (1, .int u1)] → W p l e ({ frames := 9, cells := 0, slots := 0, locals := 212 }) s m ([.ref h0, .int u1] : List Value).toArray below meth c H locs 0 0 (MQ below (QT (po_X12_readText kp L f0 h0 u1) G cI cJ cZ cD cR cT A kp L) ([.ref h0, .int u1] : List Value).toArray s 0 0 A) (F0 m 144 ls []) := by
                        intro n
                        induction n with
                        | zero =>
                          intro f9898 y9911 m9899 m9900 m9901 m9902 m9903 m9904 m9905 m9906 m9907 m9908 m9909 m9910 b9912 z9913 v9914 v9916 v9915 hm H locs ls hW hF hl
                          have hz := i32_b y9911
                          exfalso; omega
                        | succ n ih =>
                          intro f9898 y9911 m9899 m9900 m9901 m9902 m9903 m9904 m9905 m9906 m9907 m9908 m9909 m9910 b9912 z9913 v9914 v9916 v9915 hm H locs ls hW hF hl
                          have ih144 := ih
                          refine lv_iload_n hx hb dX12_readText_144 rfl (lv_at hl 0 rfl) ?_
                          refine lv_aload_n hx hb dX12_readText_145 rfl (lv_at hl 2 rfl) ?_
                          refine fg_RX12_229 E hW rh0 dX12_readText_146 (fun y9918 m9919 b9920 => ?_)
                          obtain rfl : y183 = y9918 := (m9907).symm.trans m9919
                          refine q_icmp_ge (tgt := 198) hx hb dX12_readText_149 (by decide) rfl rfl (fun c9921 => ?_) (fun c9921 => ?_)
                          · refine lv_aload_n hx hb dX12_readText_198 rfl (lv_at hl 2 rfl) ?_
                            refine fg_RX12_8 E hW rh0 dX12_readText_199 (fun a9922 m9923 r9924 => ?_)
                            obtain rfl : pR = a9922 := (m9899).symm.trans m9923
                            refine lv_iconst (v := 3) hx hb dX12_readText_202 (by decide) ?_
                            refine lv_dup2_11 hx hb dX12_readText_203 rfl rfl ?_
                            refine gl_822 E hW rR (by decide) dX12_readText_204 (fun y9925 m9926 b9927 => ?_)
                            obtain rfl : p3 = y9925 := (m9910).symm.trans m9926
                            refine lv_iconst (v := 1) hx hb dX12_readText_205 (by decide) ?_
                            refine q_iadd (Y := 1) hx hb dX12_readText_206 rfl rfl (by omega) (fun x9928 h9929 => ?_)
                            have hk9930 : (3 : Int32).toInt = 3 := rfl
                            have hw9935 := hW.2.2.2
                            refine gs_822 E hW rR (by decide) (fun hc => rr_up2 hc (by omega) (by unfold rbI; omega)) dX12_readText_207 (fun f9931 H locs e9932 n9933 g9934 hW => ?_)
                            have z9936 : RF rw_X12_readText f0 f9931 h0 := rf_st (lo := 3) (hi := 3) z9913 mR e9932 (by decide) rfl
                            have z9937 : vN f9931 h0 = cN ∧ vO f9931 h0 = cO ∧ vA f9931 h0 = cA := cn_keep v9916 hw9935 g9934 rh0 rfl rfl rfl
                            have hF := FM.tr hF g9934 rfl
                            have z9938 : TX (aI (f9931 pR)) := tx_new (p3 := p3) hTX (by have q := mp3; rwa [show (3 : Int32).toNatClampNeg = 3 from by decide] at q) (by omega) (by omega) v9915 hCL (by omega) rfl (by omega) (by omega) e9932 (by omega)
                            refine lv_iconst (v := 1) hx hb dX12_readText_208 (by decide) ?_
                            exact e_Z E hW rfl (by decide) ⟨⟨_, rfl, (by have hk : (1 : Int32).toInt = 1 := rfl; first | decide | omega)⟩, hF, (fun q => not_zero q), (fun _ => by rw [mR]; exact z9938), z9936⟩ dX12_readText_209
                          · refine lv_aload_n hx hb dX12_readText_152 rfl (lv_at hl 2 rfl) ?_
                            refine fg_RX12_8 E hW rh0 dX12_readText_153 (fun a9939 m9940 r9941 => ?_)
                            obtain rfl : pR = a9939 := (m9899).symm.trans m9940
                            refine lv_iload_n hx hb dX12_readText_156 rfl (lv_at hl 1 rfl) ?_
                            refine lv_bipush (v := 98) hx hb dX12_readText_157 (by decide) ?_
                            refine q_iadd (Y := 98) hx hb dX12_readText_159 rfl rfl (by omega) (fun x9942 h9943 => ?_)
                            refine lv_iconst (v := 2) hx hb dX12_readText_160 (by decide) ?_
                            refine lv_iload_n hx hb dX12_readText_161 rfl (lv_at hl 0 rfl) ?_
                            refine q_imul (X := 2) hx hb dX12_readText_162 rfl rfl (by omega) (fun x9944 h9945 => ?_)
                            refine q_iadd hx hb dX12_readText_163 rfl rfl (by omega) (fun x9946 h9947 => ?_)
                            refine lv_aload_n hx hb dX12_readText_164 rfl (lv_at hl 2 rfl) ?_
                            refine fg_RX12_42 E hW rh0 dX12_readText_165 (fun a9948 m9949 r9950 => ?_)
                            refine lv_iload_n hx hb dX12_readText_168 rfl (lv_at hl 0 rfl) ?_
                            refine gl_842 E hW r9950 ⟨by omega, by omega⟩ dX12_readText_169 (fun y9951 m9952 => ?_)
                            have m9954 : aI (f9898 a9948) (y9911 : Int32).toNatClampNeg = y9951 := m9952
                            have z9955 : vN f9898 h0 = cN ∧ vO f9898 h0 = cO ∧ vA f9898 h0 = cA := v9916
                            have hw9960 := hW.2.2.2
                            refine gs_822 E hW rR ⟨by omega, by omega⟩ (fun hc => rr_up2 hc (by omega) (rb_free (by omega))) dX12_readText_170 (fun f9956 H locs e9957 n9958 g9959 hW => ?_)
                            have z9961 : RF rw_X12_readText f0 f9956 h0 := rf_st (lo := 18080) (hi := 35940) z9913 mR e9957 (by omega) rfl
                            have z9962 : vN f9956 h0 = cN ∧ vO f9956 h0 = cO ∧ vA f9956 h0 = cA := cn_keep v9916 hw9960 g9959 rh0 rfl rfl rfl
                            have hF := FM.tr hF g9959 rfl
                            refine lv_aload_n hx hb dX12_readText_171 rfl (lv_at hl 2 rfl) ?_
                            refine fg_RX12_8 E hW rh0 dX12_readText_172 (fun a9963 m9964 r9965 => ?_)
                            obtain rfl : pR = a9963 := (((fm_R g9959 rh0 rfl).trans m9940)).symm.trans m9964
                            refine lv_iload_n hx hb dX12_readText_175 rfl (lv_at hl 1 rfl) ?_
                            refine lv_bipush (v := 98) hx hb dX12_readText_176 (by decide) ?_
                            refine q_iadd (Y := 98) hx hb dX12_readText_178 rfl rfl (by omega) (fun x9966 h9967 => ?_)
                            refine lv_iconst (v := 2) hx hb dX12_readText_179 (by decide) ?_
                            refine lv_iload_n hx hb dX12_readText_180 rfl (lv_at hl 0 rfl) ?_
                            refine q_imul (X := 2) hx hb dX12_readText_181 rfl rfl (by omega) (fun x9968 h9969 => ?_)
                            refine q_iadd hx hb dX12_readText_182 rfl rfl (by omega) (fun x9970 h9971 => ?_)
                            refine lv_iconst (v := 1) hx hb dX12_readText_183 (by decide) ?_
                            refine q_iadd (Y := 1) hx hb dX12_readText_184 rfl rfl (by omega) (fun x9972 h9973 => ?_)
                            refine lv_aload_n hx hb dX12_readText_185 rfl (lv_at hl 2 rfl) ?_
                            refine fg_RX12_45 E hW rh0 dX12_readText_186 (fun a9974 m9975 r9976 => ?_)
                            refine lv_iload_n hx hb dX12_readText_189 rfl (lv_at hl 0 rfl) ?_
                            refine gl_843 E hW r9976 ⟨by omega, by omega⟩ dX12_readText_190 (fun y9977 m9978 => ?_)
                            have m9980 : aI (f9956 a9974) (y9911 : Int32).toNatClampNeg = y9977 := m9978
                            have z9981 : vN f9956 h0 = cN ∧ vO f9956 h0 = cO ∧ vA f9956 h0 = cA := z9962
                            have hw9986 := hW.2.2.2
                            refine gs_822 E hW rR ⟨by omega, by omega⟩ (fun hc => rr_up2 hc (by omega) (rb_free (by omega))) dX12_readText_191 (fun f9982 H locs e9983 n9984 g9985 hW => ?_)
                            have m9987 : aI (f9982 a9948) (y9911 : Int32).toNatClampNeg = y9951 := ((congrArg (fun z => aI z (y9911 : Int32).toNatClampNeg) (fm_A g9985 r9950 (by decide) rfl)).trans ((congrArg (fun z => aI z (y9911 : Int32).toNatClampNeg) (fm_A g9959 r9950 (by decide) rfl)).trans m9952))
                            have z9988 : RF rw_X12_readText f0 f9982 h0 := rf_st (lo := 18081) (hi := 35941) z9961 mR e9983 (by omega) rfl
                            have z9989 : vN f9982 h0 = cN ∧ vO f9982 h0 = cO ∧ vA f9982 h0 = cA := cn_keep z9962 hw9986 g9985 rh0 rfl rfl rfl
                            have hF := FM.tr hF g9985 rfl
                            refine q_iinc hx hb dX12_readText_192 hl (k := 0) rfl rfl rfl (by omega) (by decide) (fun i9990 ls h9991 hl => ?_)
                            have hl : lv_has ls 4 [(3, .int i9990), (2, .int x5150), (0, .ref h0), (1, .int u1)] := hl
                            refine lv_goto (tgt := 144) hx hb dX12_readText_195 (by decide) ?_
                            exact ih144 f9982 i9990 ((fm_R g9985 rh0 rfl).trans m9964) ((fm_I g9985 rh0 rfl).trans ((fm_I g9959 rh0 rfl).trans m9900)) ((fm_I g9985 rh0 rfl).trans ((fm_I g9959 rh0 rfl).trans m9901)) ((fm_I g9985 rh0 rfl).trans ((fm_I g9959 rh0 rfl).trans m9902)) ((fm_I g9985 rh0 rfl).trans ((fm_I g9959 rh0 rfl).trans m9903)) ((fm_J g9985 rh0 rfl).trans ((fm_J g9959 rh0 rfl).trans m9904)) ((fm_I g9985 rh0 rfl).trans ((fm_I g9959 rh0 rfl).trans m9905)) ((fm_I g9985 rh0 rfl).trans ((fm_I g9959 rh0 rfl).trans m9906)) ((fm_I g9985 rh0 rfl).trans ((fm_I g9959 rh0 rfl).trans m9919)) ((fm_I g9985 rh0 rfl).trans ((fm_I g9959 rh0 rfl).trans m9908)) ((fm_I g9985 rh0 rfl).trans ((fm_I g9959 rh0 rfl).trans m9909)) (show aI (f9982 pR) (3 : Int32).toNatClampNeg = p3 from by rw [e9983, up_n (tn_ne (by omega) (by decide) (by have hk0 : (3 : Int32).toInt = 3 := rfl; omega))]; exact (show aI (f9956 pR) (3 : Int32).toNatClampNeg = p3 from by rw [e9957, up_n (tn_ne (by omega) (by decide) (by have hk0 : (3 : Int32).toInt = 3 := rfl; omega))]; exact m9910)) (by omega) z9988 (by omega) z9989 (tb_cd v9915 e9957 (by omega) e9983 (by omega) rfl (by omega) (by omega) (by omega) (by rw [← z9955.2.1]; unfold vO; rw [m9949]; exact m9954) (by rw [← z9981.2.2]; unfold vA; rw [m9975]; exact m9980) (by omega)) (by omega) _ _ _ hW hF (lv_sub hl [0, 1, 2, 3] rfl)
                      have hk9992 : (0 : Int32).toInt = 0 := rfl
                      exact L9917 401 f6560 0 m6561 m6562 m6563 m6564 m6565 m6566 m6567 m6581 m6569 m6570 m6571 m6572 (by decide) z6575 (by omega) v6578 (by have hk : (0 : Int32).toInt = 0 := rfl; have q : (8 * y180.toInt : Int) = y6573.toInt := (by omega); rw [hk, q]; exact v6577) (by omega) _ _ _ hW hF (lv_sub hl [0, 1, 2, 3] rfl)
                    · refine lv_aload_n hx hb dX12_readText_120 rfl (lv_at hl 2 rfl) ?_
                      refine fg_RX12_8 E hW rh0 dX12_readText_121 (fun a9993 m9994 r9995 => ?_)
                      obtain rfl : pR = a9993 := (m6561).symm.trans m9994
                      refine lv_iload_n hx hb dX12_readText_124 rfl (lv_at hl 1 rfl) ?_
                      refine lv_iconst (v := 2) hx hb dX12_readText_125 (by decide) ?_
                      refine q_iadd (Y := 2) hx hb dX12_readText_126 rfl rfl (by omega) (fun x9996 h9997 => ?_)
                      refine lv_iload_n hx hb dX12_readText_127 rfl (lv_at hl 0 rfl) ?_
                      refine q_iadd hx hb dX12_readText_128 rfl rfl (by omega) (fun x9998 h9999 => ?_)
                      refine lv_aload_n hx hb dX12_readText_129 rfl (lv_at hl 2 rfl) ?_
                      refine fg_RX12_39 E hW rh0 dX12_readText_130 (fun a10000 m10001 r10002 => ?_)
                      refine lv_iload_n hx hb dX12_readText_133 rfl (lv_at hl 0 rfl) ?_
                      refine gl_840 E hW r10002 ⟨by omega, by omega⟩ dX12_readText_134 (fun y10003 m10004 => ?_)
                      have m10006 : aI (f6560 a10000) (y6573 : Int32).toNatClampNeg = y10003 := m10004
                      have z10007 : vN f6560 h0 = cN ∧ vO f6560 h0 = cO ∧ vA f6560 h0 = cA := v6578
                      have hw10012 := hW.2.2.2
                      refine gs_822 E hW rR ⟨by omega, by omega⟩ (fun hc => rr_up2 hc (by omega) (rb_free (by omega))) dX12_readText_135 (fun f10008 H locs e10009 n10010 g10011 hW => ?_)
                      have z10013 : RF rw_X12_readText f0 f10008 h0 := rf_st (lo := 17984) (hi := 35141) z6575 mR e10009 (by omega) rfl
                      have z10014 : vN f10008 h0 = cN ∧ vO f10008 h0 = cO ∧ vA f10008 h0 = cA := cn_keep v6578 hw10012 g10011 rh0 rfl rfl rfl
                      have hF := FM.tr hF g10011 rfl
                      refine q_iinc hx hb dX12_readText_136 hl (k := 0) rfl rfl rfl (by omega) (by decide) (fun i10015 ls h10016 hl => ?_)
                      have hl : lv_has ls 4 [(3, .int i10015), (2, .int x5150), (0, .ref h0), (1, .int u1)] := hl
                      refine lv_goto (tgt := 109) hx hb dX12_readText_139 (by decide) ?_
                      exact ih109 f10008 i10015 ((fm_R g10011 rh0 rfl).trans m9994) ((fm_I g10011 rh0 rfl).trans m6562) ((fm_I g10011 rh0 rfl).trans m6563) ((fm_I g10011 rh0 rfl).trans m6564) ((fm_I g10011 rh0 rfl).trans m6565) ((fm_J g10011 rh0 rfl).trans m6566) ((fm_I g10011 rh0 rfl).trans m6567) ((fm_I g10011 rh0 rfl).trans m6581) ((fm_I g10011 rh0 rfl).trans m6569) ((fm_I g10011 rh0 rfl).trans m6570) ((fm_I g10011 rh0 rfl).trans m6571) (show aI (f10008 pR) (3 : Int32).toNatClampNeg = p3 from by rw [e10009, up_n (tn_ne (by omega) (by decide) (by have hk0 : (3 : Int32).toInt = 3 := rfl; omega))]; exact m6572) (by omega) z10013 (by omega) z10014 (tb_cl v6577 e10009 (by omega) rfl (by omega) (by omega) (by rw [← z10007.1]; unfold vN; rw [m10001]; exact m10006) (by omega)) (by omega) _ _ _ hW hF (lv_sub hl [0, 1, 2, 3] rfl)
                have hk10017 : (0 : Int32).toInt = 0 := rfl
                exact L6579 97 f5172 0 ((fm_R g5175 rh0 rfl).trans m5165) ((fm_I g5175 rh0 rfl).trans ((fm_I g5159 rh0 rfl).trans ((fm_I g5149 rh0 rfl).trans ((fm_I g5116 rh0 rfl).trans ((fm_I g213 rh0 rfl).trans m163))))) ((fm_I g5175 rh0 rfl).trans ((fm_I g5159 rh0 rfl).trans ((fm_I g5149 rh0 rfl).trans m5122))) ((fm_I g5175 rh0 rfl).trans ((fm_I g5159 rh0 rfl).trans ((fm_I g5149 rh0 rfl).trans m5125))) ((fm_I g5175 rh0 rfl).trans ((fm_I g5159 rh0 rfl).trans ((fm_I g5149 rh0 rfl).trans m5128))) ((fm_J g5175 rh0 rfl).trans ((fm_J g5159 rh0 rfl).trans ((fm_J g5149 rh0 rfl).trans m5134))) ((fm_I g5175 rh0 rfl).trans ((fm_I g5159 rh0 rfl).trans ((fm_I g5149 rh0 rfl).trans m5136))) ((fm_I g5175 rh0 rfl).trans m5170) ((fm_I g5175 rh0 rfl).trans ((fm_I g5159 rh0 rfl).trans ((fm_I g5149 rh0 rfl).trans ((fm_I g5116 rh0 rfl).trans ((fm_I g213 rh0 rfl).trans m184))))) ((fm_I g5175 rh0 rfl).trans ((fm_I g5159 rh0 rfl).trans ((fm_I g5149 rh0 rfl).trans ((fm_I g5116 rh0 rfl).trans ((fm_I g213 rh0 rfl).trans m187))))) ((fm_I g5175 rh0 rfl).trans ((fm_I g5159 rh0 rfl).trans ((fm_I g5149 rh0 rfl).trans ((fm_I g5116 rh0 rfl).trans ((fm_I g213 rh0 rfl).trans m190))))) (show aI (f5172 pR) (3 : Int32).toNatClampNeg = p3 from by rw [e5173, up_n (tn_ne (by omega) (by decide) (by have hk0 : (3 : Int32).toInt = 3 := rfl; omega))]; exact (show aI (f5156 pR) (3 : Int32).toNatClampNeg = p3 from by rw [e5157, up_n (tn_ne (by omega) (by decide) (by have hk0 : (3 : Int32).toInt = 3 := rfl; omega))]; exact ((congrArg (fun z => aI z (3 : Int32).toNatClampNeg) (fm_A g5149 rR (by decide) rfl)).trans m5143))) (by decide) z5177 (by omega) z5178 (by have hk : (0 : Int32).toInt = 0 := rfl; rw [hk]; exact z5179) (by omega) _ _ _ hW hF (lv_sub hl [0, 1, 2, 3] rfl)
              · refine lv_iconst (v := 0) hx hb dX12_readText_76 (by decide) ?_
                exact e_Z E hW rfl (by decide) ⟨⟨_, rfl, (by have hk : (0 : Int32).toInt = 0 := rfl; first | decide | omega)⟩, hF, (fun _ => by rw [mR]; exact ((congrArg aI (fm_A g5116 rR (by decide) rfl)).trans ((congrArg aI (fm_A g213 rR (by decide) rfl)).trans z192))), (fun q => not_one q), z5119⟩ dX12_readText_77
        · have q10018 : y171.toInt = 3 := by omega
          clear p215
          refine lv_aload_n hx hb dX12_readText_39 rfl (lv_at hl 0 rfl) ?_
          have hw10022 := hW.2.2.2
          refine t_callV (As := []) (rest := []) E hW (c_X12_next l G cI cJ cZ cD cR cT kp L f210 hW.2.2.2 _ h0 rh0 (by simp only [((fm_I g213 rh0 rfl).trans m163), ((fm_I g213 rh0 rfl).trans m169), and_true, true_and, true_or, or_true, false_or, or_false] <;> omega)) rh0 (by decide) rfl wk_X12_next tw_1773 rfl ⟨Nat.le_of_ble_eq_true rfl, Nat.le_of_ble_eq_true rfl⟩ ⟨rfl, rfl⟩ hl.1 rfl (Nat.le_of_ble_eq_true rfl) dX12_readText_40 ⟨Nat.le_of_ble_eq_true rfl, Nat.le_of_ble_eq_true rfl⟩ (fun v10019 f10020 H locs q10021 hW => ?_)
          obtain ⟨rfl, g10023, h10024⟩ := q10021
          have m10025 : aI (f10020 pR) (3 : Int32).toNatClampNeg = p3 := ((congrArg (fun z => aI z (3 : Int32).toNatClampNeg) (fm_A g10023 rR (by decide) rfl)).trans ((congrArg (fun z => aI z (3 : Int32).toNatClampNeg) (fm_A g213 rR (by decide) rfl)).trans m164))
          have z10026 : RF rw_X12_readText f0 f10020 h0 := rf_fm hTH z216 g10023 rh0 rfl
          have z10027 : (oI (f10020 h0) 18).toInt = 1 ∨ CLs (vO f10020 h0) (vA f10020 h0) (vN f10020 h0) (oI (f10020 h0) 21).toInt (oI (f10020 h0) 19).toInt := cl_keep z217 hw10022 g10023 rh0 rfl rfl rfl rfl (fun q => by rw [fm_I g10023 rh0 rfl]; exact q)
          have hF := FM.tr hF g10023 rfl
          obtain ⟨y10028, m10029⟩ : ∃ x : Int32, oI (f10020 h0) 13 = x := ⟨_, rfl⟩
          have b10030 : (0 : Int) ≤ y10028.toInt ∧ y10028.toInt ≤ 400 := by rw [← m10029]; exact th_iv hW rh0 (by decide) (by decide) rfl
          obtain ⟨y10031, m10032⟩ : ∃ x : Int32, oI (f10020 h0) 14 = x := ⟨_, rfl⟩
          have b10033 : (0 : Int) ≤ y10031.toInt ∧ y10031.toInt ≤ 400 := by rw [← m10032]; exact th_iv hW rh0 (by decide) (by decide) rfl
          obtain ⟨y10034, m10035⟩ : ∃ x : Int32, oI (f10020 h0) 15 = x := ⟨_, rfl⟩
          have b10036 : (0 : Int) ≤ y10034.toInt ∧ y10034.toInt ≤ 3 := by rw [← m10035]; exact th_iv hW rh0 (by decide) (by decide) rfl
          obtain ⟨y10037, m10038⟩ : ∃ x : Int64, oJ (f10020 h0) 16 = x := ⟨_, rfl⟩
          simp only [((fm_I g10023 rh0 rfl).trans ((fm_I g213 rh0 rfl).trans m163)), ((fm_I g213 rh0 rfl).trans m163), m10029, ((fm_I g213 rh0 rfl).trans m166), m10032, ((fm_I g213 rh0 rfl).trans m169), m10035, ((fm_I g213 rh0 rfl).trans m172), m10038, ((fm_J g213 rh0 rfl).trans m175)] at h10024
          refine lv_aload_n hx hb dX12_readText_43 rfl (lv_at hl 0 rfl) ?_
          have hw10042 := hW.2.2.2
          refine t_callV (As := []) (rest := []) E hW (c_X12_readClause l G cI cJ cZ cD cR cT kp L f10020 hW.2.2.2 _ h0 rh0 (z10027.resolve_left (by rw [((fm_I g10023 rh0 rfl).trans ((fm_I g213 rh0 rfl).trans m198))]; omega)) (by simp only [((fm_I g10023 rh0 rfl).trans ((fm_I g213 rh0 rfl).trans m163)), m10029, m10032, m10035, ((fm_I g10023 rh0 rfl).trans ((fm_I g213 rh0 rfl).trans m198)), ((fm_I g10023 rh0 rfl).trans ((fm_I g213 rh0 rfl).trans m184)), m10038, and_true, true_and, true_or, or_true, false_or, or_false] <;> omega)) rh0 (by decide) rfl wk_X12_readClause tw_1788 rfl ⟨Nat.le_of_ble_eq_true rfl, Nat.le_of_ble_eq_true rfl⟩ ⟨rfl, rfl⟩ hl.1 rfl (Nat.le_of_ble_eq_true rfl) dX12_readText_44 ⟨Nat.le_of_ble_eq_true rfl, Nat.le_of_ble_eq_true rfl⟩ (fun v10039 f10040 H locs q10041 hW => ?_)
          obtain ⟨rfl, g10043, h10044, h10045⟩ := q10041
          have z10046 : RF rw_X12_readText f0 f10040 h0 := rf_fm hTH z10026 g10043 rh0 rfl
          have hF := FM.tr hF g10043 rfl
          obtain ⟨y10047, m10048⟩ : ∃ x : Int32, oI (f10040 h0) 13 = x := ⟨_, rfl⟩
          have b10049 : (0 : Int) ≤ y10047.toInt ∧ y10047.toInt ≤ 400 := by rw [← m10048]; exact th_iv hW rh0 (by decide) (by decide) rfl
          obtain ⟨y10050, m10051⟩ : ∃ x : Int32, oI (f10040 h0) 14 = x := ⟨_, rfl⟩
          have b10052 : (0 : Int) ≤ y10050.toInt ∧ y10050.toInt ≤ 400 := by rw [← m10051]; exact th_iv hW rh0 (by decide) (by decide) rfl
          obtain ⟨y10053, m10054⟩ : ∃ x : Int32, oI (f10040 h0) 15 = x := ⟨_, rfl⟩
          have b10055 : (0 : Int) ≤ y10053.toInt ∧ y10053.toInt ≤ 3 := by rw [← m10054]; exact th_iv hW rh0 (by decide) (by decide) rfl
          obtain ⟨y10056, m10057⟩ : ∃ x : Int32, oI (f10040 h0) 18 = x := ⟨_, rfl⟩
          have b10058 : (0 : Int) ≤ y10056.toInt ∧ y10056.toInt ≤ 1 := by rw [← m10057]; exact th_iv hW rh0 (by decide) (by decide) rfl
          obtain ⟨y10059, m10060⟩ : ∃ x : Int32, oI (f10040 h0) 21 = x := ⟨_, rfl⟩
          have b10061 : (0 : Int) ≤ y10059.toInt ∧ y10059.toInt ≤ 400 := by rw [← m10060]; exact th_iv hW rh0 (by decide) (by decide) rfl
          obtain ⟨y10062, m10063⟩ : ∃ x : Int64, oJ (f10040 h0) 16 = x := ⟨_, rfl⟩
          simp only [((fm_I g10043 rh0 rfl).trans ((fm_I g10023 rh0 rfl).trans ((fm_I g213 rh0 rfl).trans m163))), ((fm_I g10023 rh0 rfl).trans ((fm_I g213 rh0 rfl).trans m163)), m10048, m10029, m10051, m10032, m10054, m10035, m10057, ((fm_I g10023 rh0 rfl).trans ((fm_I g213 rh0 rfl).trans m198)), m10060, ((fm_I g10023 rh0 rfl).trans ((fm_I g213 rh0 rfl).trans m184)), m10063, m10038] at h10044
          refine lv_goto (tgt := 23) hx hb dX12_readText_47 (by decide) ?_
          exact ih23 f10040 y10047 y10050 y10053 y10062 y10056 (oI (f10040 h0) 19) y10059 (oI (f10040 h0) 24) (oI (f10040 h0) 27) ((fm_R g10043 rh0 rfl).trans ((fm_R g10023 rh0 rfl).trans ((fm_R g213 rh0 rfl).trans m162))) ((fm_I g10043 rh0 rfl).trans ((fm_I g10023 rh0 rfl).trans ((fm_I g213 rh0 rfl).trans m163))) ((congrArg (fun z => aI z (3 : Int32).toNatClampNeg) (fm_A g10043 rR (by decide) rfl)).trans m10025) m10048 (by first | omega | decide | trivial) m10051 (by first | omega | decide | trivial) m10054 (by first | omega | decide | trivial) m10063 (by first | omega | decide | trivial) m10057 (by first | omega | decide | trivial) rfl (th_iv hW rh0 (by decide) (by decide) rfl) m10060 (by first | omega | decide | trivial) rfl (th_iv hW rh0 (by decide) (by decide) rfl) rfl (th_iv hW rh0 (by decide) (by decide) rfl) ((congrArg aI (fm_A g10043 rR (by decide) rfl)).trans ((congrArg aI (fm_A g10023 rR (by decide) rfl)).trans ((congrArg aI (fm_A g213 rR (by decide) rfl)).trans z192))) z10046 (by omega) h10045 (by omega) _ _ _ hW hF (lv_sub hl [0, 1] rfl)
  exact L196 403 f44 y51 y54 y57 y66 y60 (oI (f44 h0) 19) y63 (oI (f44 h0) 24) (oI (f44 h0) 27) ((fm_R g47 rh0 rfl).trans ((fm_R g38 rh0 rfl).trans ((fm_R g32 rh0 rfl).trans ((fm_R g25 rh0 rfl).trans ((fm_R g5 rh0 rfl).trans mR))))) ((fm_I g47 rh0 rfl).trans ((fm_I g38 rh0 rfl).trans ((fm_I g32 rh0 rfl).trans ((fm_I g25 rh0 rfl).trans ((fm_I g5 rh0 rfl).trans mF12))))) ((congrArg (fun z => aI z (3 : Int32).toNatClampNeg) (fm_A g47 rR (by decide) rfl)).trans m40) m52 (by first | omega | decide | trivial) m55 (by first | omega | decide | trivial) m58 (by first | omega | decide | trivial) m67 (by first | omega | decide | trivial) m61 (by first | omega | decide | trivial) rfl (th_iv hW rh0 (by decide) (by decide) rfl) m64 (by first | omega | decide | trivial) rfl (th_iv hW rh0 (by decide) (by decide) rfl) rfl (th_iv hW rh0 (by decide) (by decide) rfl) ((congrArg aI (fm_A g47 rR (by decide) rfl)).trans m41) z50 (by omega) h49 (by omega) _ _ _ hW hF (lv_sub hl [0, 1] rfl)
def rw_X12_text : List (Nat × Nat) := [(3, 3), (17982, 35941)]
def ms_X12_text : List (Nat × Nat) := [(12, 0), (12, 1), (12, 12), (12, 13), (12, 14), (12, 15), (12, 16), (12, 17), (12, 18), (12, 19), (12, 21), (12, 24), (12, 27), (12, 28), (822, 0), (840, 0), (842, 0), (843, 0), (845, 0), (846, 0)]
def po_X12_text (kp : Nat → Nat) (L : List Nat) (f0 : Nat → va_E) (h0 : Nat) (u1 : Int32) : Option Value → (Nat → va_E) → Prop := fun v f => (∃ r : Int32, v = some (.int r) ∧ (True)) ∧ FM kp L ms_X12_text f0 f ∧ (TX (aI (f (oR (f0 h0) 2)))) ∧ (RF rw_X12_text f0 f h0)
set_option maxHeartbeats 4000000 in
set_option maxRecDepth 100000 in
theorem c_X12_text (l : Launch) (G : va_G) (cI cJ cZ cD cR cT : ClassId) (kp : Nat → Nat) (L : List Nat) (f0 : Nat → va_E) (hTH : TH cI cJ cZ cD cR cT kp L f0) (sz : Nat) (h0 : Nat) (u1 : Int32) (rh0 : RK kp L h0 12) (hTX : TX (aI (f0 (oR (f0 h0) 2)))) : Met l yX12_text (Cond.code yX12_text cX12_text 3 (some .int) :: wTab) ({ frames := 10, cells := 0, slots := 0, locals := 235 }) (va_Pc [.ref h0, .int u1] (PreW G (tys6 cI cJ cZ cD cR cT) (va_pl L f0) sz)) (QT (po_X12_text kp L f0 h0 u1) G cI cJ cZ cD cR cT (va_A (va_pl L f0) sz) kp L) 0 0 (va_A (va_pl L f0) sz) := by
  refine metT (by decide) (Nat.le_of_ble_eq_true rfl) hTH ?_
  intro p e s m below meth c A ls E hW hl
  obtain ⟨hx, hb, -, hml, hown, hts, -, -, -⟩ := id E
  have hF : FM kp L ms_X12_text f0 f0 := FM.rf
  have hl : lv_has ls 3 [(0, .ref h0), (1, .int u1)] := hl
  obtain ⟨pR, mR⟩ : ∃ x : Nat, oR (f0 h0) 2 = x := ⟨_, rfl⟩
  have rR : RK kp L pR 822 := by rw [← mR]; exact th_ref hTH rh0 (by decide) (by decide) rfl
  rw [mR] at hTX
  refine lv_aload_n hx hb dX12_text_0 rfl (lv_at hl 0 rfl) ?_
  refine lv_iconst (v := 0) hx hb dX12_text_1 (by decide) ?_
  refine fp_RX12_82 E hW rh0 dX12_text_2 (fun f1 H locs e2 n3 g4 hW => ?_)
  have z5 : TX (aI (f1 pR)) := by rw [fm_A g4 rR (by decide) rfl]; exact hTX
  have z6 : RF rw_X12_text f0 f1 h0 := rf_fm hTH rf_rf g4 rh0 rfl
  have hF := FM.tr hF g4 rfl
  refine lv_iload_n hx hb dX12_text_5 rfl (lv_at hl 1 rfl) ?_
  refine t_callS (As := [.int u1]) (rest := []) E hW (c_X12_isWeek l G cI cJ cZ cD cR cT kp L f1 hW.2.2.2 _ u1) wk_X12_isWeek tw_1719 rfl ⟨Nat.le_of_ble_eq_true rfl, Nat.le_of_ble_eq_true rfl⟩ ⟨rfl, rfl⟩ hl.1 rfl (Nat.le_of_ble_eq_true rfl) dX12_text_6 ⟨Nat.le_of_ble_eq_true rfl, Nat.le_of_ble_eq_true rfl⟩ (fun v7 f8 H locs q9 hW => ?_)
  obtain ⟨⟨x11, rfl, p12⟩, g10⟩ := q9
  have z13 : TX (aI (f8 pR)) := by rw [fm_A g10 rR (by decide) rfl]; exact z5
  have z14 : RF rw_X12_text f0 f8 h0 := rf_fm hTH z6 g10 rh0 rfl
  have hF := FM.tr hF g10 rfl
  refine q_if_eq (tgt := 23) hx hb dX12_text_9 (by decide) rfl (fun c15 => ?_) (fun c15 => ?_)
  · have q16 : (u1.toInt < 0 ∨ 399 < u1.toInt) := by omega
    clear p12
    refine lv_aload_n hx hb dX12_text_23 rfl (lv_at hl 0 rfl) ?_
    refine lv_iconst (v := 0) hx hb dX12_text_24 (by decide) ?_
    refine fp_RX12_174 E hW rh0 (by decide) dX12_text_25 (fun f17 H locs e18 n19 g20 hW => ?_)
    have z21 : TX (aI (f17 pR)) := by rw [fm_A g20 rR (by decide) rfl]; exact z13
    have z22 : RF rw_X12_text f0 f17 h0 := rf_fm hTH z14 g20 rh0 rfl
    have hF := FM.tr hF g20 rfl
    refine lv_aload_n hx hb dX12_text_28 rfl (lv_at hl 0 rfl) ?_
    refine lv_iload_n hx hb dX12_text_29 rfl (lv_at hl 1 rfl) ?_
    refine t_callS (As := [.int u1]) (rest := [.ref h0]) E hW (c_X12_isWeek l G cI cJ cZ cD cR cT kp L f17 hW.2.2.2 _ u1) wk_X12_isWeek tw_1719 rfl ⟨Nat.le_of_ble_eq_true rfl, Nat.le_of_ble_eq_true rfl⟩ ⟨rfl, rfl⟩ hl.1 rfl (Nat.le_of_ble_eq_true rfl) dX12_text_30 ⟨Nat.le_of_ble_eq_true rfl, Nat.le_of_ble_eq_true rfl⟩ (fun v23 f24 H locs q25 hW => ?_)
    obtain ⟨⟨x27, rfl, p28⟩, g26⟩ := q25
    have m29 : aI (f24 pR) = aI (f0 pR) := ((congrArg aI (fm_A g26 rR (by decide) rfl)).trans ((congrArg aI (fm_A g20 rR (by decide) rfl)).trans ((congrArg aI (fm_A g10 rR (by decide) rfl)).trans ((congrArg aI (fm_A g4 rR (by decide) rfl)).trans rfl))))
    have z30 : TX (aI (f24 pR)) := by rw [fm_A g26 rR (by decide) rfl]; exact z21
    have z31 : RF rw_X12_text f0 f24 h0 := rf_fm hTH z22 g26 rh0 rfl
    have hF := FM.tr hF g26 rfl
    refine q_if_eq (tgt := 41) hx hb dX12_text_33 (by decide) rfl (fun c32 => ?_) (fun c32 => ?_)
    · have q33 : (u1.toInt < 0 ∨ 399 < u1.toInt) := by omega
      clear p28
      refine lv_iconst (v := (-1)) hx hb dX12_text_41 (by decide) ?_
      refine t_callV (As := [.int (-1)]) (rest := []) E hW (c_X12_told l G cI cJ cZ cD cR cT kp L f24 hW.2.2.2 _ h0 (-1) rh0) rh0 (by decide) rfl wk_X12_told tw_1557 rfl ⟨Nat.le_of_ble_eq_true rfl, Nat.le_of_ble_eq_true rfl⟩ ⟨rfl, rfl⟩ hl.1 rfl (Nat.le_of_ble_eq_true rfl) dX12_text_42 ⟨Nat.le_of_ble_eq_true rfl, Nat.le_of_ble_eq_true rfl⟩ (fun v34 f35 H locs q36 hW => ?_)
      obtain ⟨⟨x38, rfl, p39⟩, g37⟩ := q36
      clear p39
      have z40 : TX (aI (f35 pR)) := by rw [fm_A g37 rR (by decide) rfl]; exact z30
      have z41 : RF rw_X12_text f0 f35 h0 := rf_fm hTH z31 g37 rh0 rfl
      have hF := FM.tr hF g37 rfl
      exact e_I E hW rfl ⟨⟨_, rfl, trivial⟩, hF, (by rw [mR]; exact z40), z41⟩ dX12_text_45
    · have q42 : 0 ≤ u1.toInt ∧ u1.toInt ≤ 399 := by omega
      clear p28
      refine lv_bipush (v := (-5)) hx hb dX12_text_36 (by decide) ?_
      refine lv_goto (tgt := 42) hx hb dX12_text_38 (by decide) ?_
      refine t_callV (As := [.int (-5)]) (rest := []) E hW (c_X12_told l G cI cJ cZ cD cR cT kp L f24 hW.2.2.2 _ h0 (-5) rh0) rh0 (by decide) rfl wk_X12_told tw_1557 rfl ⟨Nat.le_of_ble_eq_true rfl, Nat.le_of_ble_eq_true rfl⟩ ⟨rfl, rfl⟩ hl.1 rfl (Nat.le_of_ble_eq_true rfl) dX12_text_42 ⟨Nat.le_of_ble_eq_true rfl, Nat.le_of_ble_eq_true rfl⟩ (fun v43 f44 H locs q45 hW => ?_)
      obtain ⟨⟨x47, rfl, p48⟩, g46⟩ := q45
      clear p48
      have z49 : TX (aI (f44 pR)) := by rw [fm_A g46 rR (by decide) rfl]; exact z30
      have z50 : RF rw_X12_text f0 f44 h0 := rf_fm hTH z31 g46 rh0 rfl
      have hF := FM.tr hF g46 rfl
      exact e_I E hW rfl ⟨⟨_, rfl, trivial⟩, hF, (by rw [mR]; exact z49), z50⟩ dX12_text_45
  · have q51 : 0 ≤ u1.toInt ∧ u1.toInt ≤ 399 := by omega
    clear p12
    refine lv_aload_n hx hb dX12_text_12 rfl (lv_at hl 0 rfl) ?_
    refine fg_RX12_8 E hW rh0 dX12_text_13 (fun a52 m53 r54 => ?_)
    obtain rfl : pR = a52 := (((fm_R g10 rh0 rfl).trans ((fm_R g4 rh0 rfl).trans mR))).symm.trans m53
    refine lv_iconst (v := 3) hx hb dX12_text_16 (by decide) ?_
    refine gl_822 E hW rR (by decide) dX12_text_17 (fun y55 m56 b57 => ?_)
    have b58 := rr_3 (show RowInv _ from b57) m56 (by decide)
    refine lv_bipush (v := 20) hx hb dX12_text_18 (by decide) ?_
    refine q_icmp_ne (Y := 20) (tgt := 46) hx hb dX12_text_20 (by decide) rfl rfl (fun c59 => ?_) (fun c59 => ?_)
    · refine lv_aload_n hx hb dX12_text_46 rfl (lv_at hl 0 rfl) ?_
      refine lv_iload_n hx hb dX12_text_47 rfl (lv_at hl 1 rfl) ?_
      refine t_callV (As := [.int u1]) (rest := []) E hW (c_X12_readText l G cI cJ cZ cD cR cT kp L f8 hW.2.2.2 _ h0 u1 rh0 (by omega) (by rw [m53]; exact z13) (by rw [m53, m56]; omega)) rh0 (by decide) rfl wk_X12_readText tw_1765 rfl ⟨Nat.le_of_ble_eq_true rfl, Nat.le_of_ble_eq_true rfl⟩ ⟨rfl, rfl⟩ hl.1 rfl (Nat.le_of_ble_eq_true rfl) dX12_text_48 ⟨Nat.le_of_ble_eq_true rfl, Nat.le_of_ble_eq_true rfl⟩ (fun v60 f61 H locs q62 hW => ?_)
      obtain ⟨⟨x67, rfl, p68⟩, g63, h64, h65, h66⟩ := q62
      have z70 : RF rw_X12_text f0 f61 h0 := rf_call z14 h66 mR m53 rfl
      have hF := FM.tr hF g63 rfl
      rcases (by omega : x67.toInt = 0 ∨ x67.toInt = 1) with q71 | q71
      · obtain rfl : (0 : Int32) = x67 := Int32.toInt_inj.mp (Eq.trans (by decide) q71.symm)
        have z72 : aI (f61 pR) = aI (f8 pR) := by have q := h64 rfl; rw [m53] at q; exact q
        refine lv_istore_n (lv' := [(2, .int 0), (0, .ref h0), (1, .int u1)]) hx hb dX12_text_51 rfl hl (by decide) rfl (fun ls hl => ?_)
        refine lv_aload_n hx hb dX12_text_52 rfl (lv_at hl 1 rfl) ?_
        refine lv_iconst (v := 0) hx hb dX12_text_53 (by decide) ?_
        refine fp_RX12_174 E hW rh0 (by decide) dX12_text_54 (fun f73 H locs e74 n75 g76 hW => ?_)
        have z77 : TX (aI (f73 pR)) := by rw [fm_A g76 rR (by decide) rfl]; exact (by rw [z72]; exact z13)
        have z78 : RF rw_X12_text f0 f73 h0 := rf_fm hTH z70 g76 rh0 rfl
        have hF := FM.tr hF g76 rfl
        refine lv_aload_n hx hb dX12_text_57 rfl (lv_at hl 1 rfl) ?_
        refine lv_iload_n hx hb dX12_text_58 rfl (lv_at hl 0 rfl) ?_
        refine q_if_eq (X := 0) (tgt := 73) hx hb dX12_text_59 (by decide) rfl (fun _ => ?_) (fun c => absurd c (by decide))
        refine lv_bipush (v := (-6)) hx hb dX12_text_73 (by decide) ?_
        refine t_callV (As := [.int (-6)]) (rest := []) E hW (c_X12_told l G cI cJ cZ cD cR cT kp L f73 hW.2.2.2 _ h0 (-6) rh0) rh0 (by decide) rfl wk_X12_told tw_1557 rfl ⟨Nat.le_of_ble_eq_true rfl, Nat.le_of_ble_eq_true rfl⟩ ⟨rfl, rfl⟩ hl.1 rfl (Nat.le_of_ble_eq_true rfl) dX12_text_75 ⟨Nat.le_of_ble_eq_true rfl, Nat.le_of_ble_eq_true rfl⟩ (fun v79 f80 H locs q81 hW => ?_)
        obtain ⟨⟨x83, rfl, p84⟩, g82⟩ := q81
        clear p84
        have m85 : aI (f80 pR) = aI (f0 pR) := ((congrArg aI (fm_A g82 rR (by decide) rfl)).trans ((congrArg aI (fm_A g76 rR (by decide) rfl)).trans (z72.trans ((congrArg aI (fm_A g10 rR (by decide) rfl)).trans ((congrArg aI (fm_A g4 rR (by decide) rfl)).trans rfl)))))
        have z86 : TX (aI (f80 pR)) := by rw [fm_A g82 rR (by decide) rfl]; exact z77
        have z87 : RF rw_X12_text f0 f80 h0 := rf_fm hTH z78 g82 rh0 rfl
        have hF := FM.tr hF g82 rfl
        exact e_I E hW rfl ⟨⟨_, rfl, trivial⟩, hF, (by rw [mR]; exact z86), z87⟩ dX12_text_78
      · obtain rfl : (1 : Int32) = x67 := Int32.toInt_inj.mp (Eq.trans (by decide) q71.symm)
        have z88 : TX (aI (f61 pR)) := by have q := h65 rfl; rw [m53] at q; exact q
        refine lv_istore_n (lv' := [(2, .int 1), (0, .ref h0), (1, .int u1)]) hx hb dX12_text_51 rfl hl (by decide) rfl (fun ls hl => ?_)
        refine lv_aload_n hx hb dX12_text_52 rfl (lv_at hl 1 rfl) ?_
        refine lv_iconst (v := 0) hx hb dX12_text_53 (by decide) ?_
        refine fp_RX12_174 E hW rh0 (by decide) dX12_text_54 (fun f89 H locs e90 n91 g92 hW => ?_)
        have z93 : TX (aI (f89 pR)) := by rw [fm_A g92 rR (by decide) rfl]; exact z88
        have z94 : RF rw_X12_text f0 f89 h0 := rf_fm hTH z70 g92 rh0 rfl
        have hF := FM.tr hF g92 rfl
        refine lv_aload_n hx hb dX12_text_57 rfl (lv_at hl 1 rfl) ?_
        refine lv_iload_n hx hb dX12_text_58 rfl (lv_at hl 0 rfl) ?_
        refine q_if_eq (X := 1) (tgt := 73) hx hb dX12_text_59 (by decide) rfl (fun c => absurd c (by decide)) (fun _ => ?_)
        refine lv_aload_n hx hb dX12_text_62 rfl (lv_at hl 1 rfl) ?_
        refine fg_RX12_8 E hW rh0 dX12_text_63 (fun a95 m96 r97 => ?_)
        obtain rfl : pR = a95 := (((fm_R g92 rh0 rfl).trans ((fm_R g63 rh0 rfl).trans m53))).symm.trans m96
        refine lv_iconst (v := 3) hx hb dX12_text_66 (by decide) ?_
        refine gl_822 E hW rR (by decide) dX12_text_67 (fun y98 m99 b100 => ?_)
        have b101 := rr_3 (show RowInv _ from b100) m99 (by decide)
        refine lv_iconst (v := 1) hx hb dX12_text_68 (by decide) ?_
        refine q_isub (Y := 1) hx hb dX12_text_69 rfl rfl (by omega) (fun x102 h103 => ?_)
        refine lv_goto (tgt := 75) hx hb dX12_text_70 (by decide) ?_
        refine t_callV (As := [.int x102]) (rest := []) E hW (c_X12_told l G cI cJ cZ cD cR cT kp L f89 hW.2.2.2 _ h0 x102 rh0) rh0 (by decide) rfl wk_X12_told tw_1557 rfl ⟨Nat.le_of_ble_eq_true rfl, Nat.le_of_ble_eq_true rfl⟩ ⟨rfl, rfl⟩ hl.1 rfl (Nat.le_of_ble_eq_true rfl) dX12_text_75 ⟨Nat.le_of_ble_eq_true rfl, Nat.le_of_ble_eq_true rfl⟩ (fun v104 f105 H locs q106 hW => ?_)
        obtain ⟨⟨x108, rfl, p109⟩, g107⟩ := q106
        clear p109
        have z110 : TX (aI (f105 pR)) := by rw [fm_A g107 rR (by decide) rfl]; exact z93
        have z111 : RF rw_X12_text f0 f105 h0 := rf_fm hTH z94 g107 rh0 rfl
        have hF := FM.tr hF g107 rfl
        exact e_I E hW rfl ⟨⟨_, rfl, trivial⟩, hF, (by rw [mR]; exact z110), z111⟩ dX12_text_78
    · refine lv_aload_n hx hb dX12_text_23 rfl (lv_at hl 0 rfl) ?_
      refine lv_iconst (v := 0) hx hb dX12_text_24 (by decide) ?_
      refine fp_RX12_174 E hW rh0 (by decide) dX12_text_25 (fun f112 H locs e113 n114 g115 hW => ?_)
      have z116 : TX (aI (f112 pR)) := by rw [fm_A g115 rR (by decide) rfl]; exact z13
      have z117 : RF rw_X12_text f0 f112 h0 := rf_fm hTH z14 g115 rh0 rfl
      have hF := FM.tr hF g115 rfl
      refine lv_aload_n hx hb dX12_text_28 rfl (lv_at hl 0 rfl) ?_
      refine lv_iload_n hx hb dX12_text_29 rfl (lv_at hl 1 rfl) ?_
      refine t_callS (As := [.int u1]) (rest := [.ref h0]) E hW (c_X12_isWeek l G cI cJ cZ cD cR cT kp L f112 hW.2.2.2 _ u1) wk_X12_isWeek tw_1719 rfl ⟨Nat.le_of_ble_eq_true rfl, Nat.le_of_ble_eq_true rfl⟩ ⟨rfl, rfl⟩ hl.1 rfl (Nat.le_of_ble_eq_true rfl) dX12_text_30 ⟨Nat.le_of_ble_eq_true rfl, Nat.le_of_ble_eq_true rfl⟩ (fun v118 f119 H locs q120 hW => ?_)
      obtain ⟨⟨x122, rfl, p123⟩, g121⟩ := q120
      have m124 : aI (f119 pR) (3 : Int32).toNatClampNeg = y55 := ((congrArg (fun z => aI z (3 : Int32).toNatClampNeg) (fm_A g121 rR (by decide) rfl)).trans ((congrArg (fun z => aI z (3 : Int32).toNatClampNeg) (fm_A g115 rR (by decide) rfl)).trans m56))
      have m125 : aI (f119 pR) = aI (f0 pR) := ((congrArg aI (fm_A g121 rR (by decide) rfl)).trans ((congrArg aI (fm_A g115 rR (by decide) rfl)).trans ((congrArg aI (fm_A g10 rR (by decide) rfl)).trans ((congrArg aI (fm_A g4 rR (by decide) rfl)).trans rfl))))
      have z126 : TX (aI (f119 pR)) := by rw [fm_A g121 rR (by decide) rfl]; exact z116
      have z127 : RF rw_X12_text f0 f119 h0 := rf_fm hTH z117 g121 rh0 rfl
      have hF := FM.tr hF g121 rfl
      refine q_if_eq (tgt := 41) hx hb dX12_text_33 (by decide) rfl (fun c128 => ?_) (fun c128 => ?_)
      · have q129 : (u1.toInt < 0 ∨ 399 < u1.toInt) := by omega
        clear p123
        refine lv_iconst (v := (-1)) hx hb dX12_text_41 (by decide) ?_
        refine t_callV (As := [.int (-1)]) (rest := []) E hW (c_X12_told l G cI cJ cZ cD cR cT kp L f119 hW.2.2.2 _ h0 (-1) rh0) rh0 (by decide) rfl wk_X12_told tw_1557 rfl ⟨Nat.le_of_ble_eq_true rfl, Nat.le_of_ble_eq_true rfl⟩ ⟨rfl, rfl⟩ hl.1 rfl (Nat.le_of_ble_eq_true rfl) dX12_text_42 ⟨Nat.le_of_ble_eq_true rfl, Nat.le_of_ble_eq_true rfl⟩ (fun v130 f131 H locs q132 hW => ?_)
        obtain ⟨⟨x134, rfl, p135⟩, g133⟩ := q132
        clear p135
        have z136 : TX (aI (f131 pR)) := by rw [fm_A g133 rR (by decide) rfl]; exact z126
        have z137 : RF rw_X12_text f0 f131 h0 := rf_fm hTH z127 g133 rh0 rfl
        have hF := FM.tr hF g133 rfl
        exact e_I E hW rfl ⟨⟨_, rfl, trivial⟩, hF, (by rw [mR]; exact z136), z137⟩ dX12_text_45
      · have q138 : 0 ≤ u1.toInt ∧ u1.toInt ≤ 399 := by omega
        clear p123
        refine lv_bipush (v := (-5)) hx hb dX12_text_36 (by decide) ?_
        refine lv_goto (tgt := 42) hx hb dX12_text_38 (by decide) ?_
        refine t_callV (As := [.int (-5)]) (rest := []) E hW (c_X12_told l G cI cJ cZ cD cR cT kp L f119 hW.2.2.2 _ h0 (-5) rh0) rh0 (by decide) rfl wk_X12_told tw_1557 rfl ⟨Nat.le_of_ble_eq_true rfl, Nat.le_of_ble_eq_true rfl⟩ ⟨rfl, rfl⟩ hl.1 rfl (Nat.le_of_ble_eq_true rfl) dX12_text_42 ⟨Nat.le_of_ble_eq_true rfl, Nat.le_of_ble_eq_true rfl⟩ (fun v139 f140 H locs q141 hW => ?_)
        obtain ⟨⟨x143, rfl, p144⟩, g142⟩ := q141
        clear p144
        have z145 : TX (aI (f140 pR)) := by rw [fm_A g142 rR (by decide) rfl]; exact z126
        have z146 : RF rw_X12_text f0 f140 h0 := rf_fm hTH z127 g142 rh0 rfl
        have hF := FM.tr hF g142 rfl
        exact e_I E hW rfl ⟨⟨_, rfl, trivial⟩, hF, (by rw [mR]; exact z145), z146⟩ dX12_text_45
def rwi_X12_beside : List (Nat × Nat) := [(0, 35941)]
def rw_X12_beside : List (Nat × Nat) := []
def ms_X12_beside : List (Nat × Nat) := [(12, 0), (12, 12), (12, 13), (12, 14), (12, 15), (12, 16), (12, 17), (12, 18), (12, 19), (12, 21), (12, 24), (12, 27), (12, 28), (12, 33), (12, 34), (12, 35), (12, 36), (12, 37), (12, 38), (822, 0), (824, 0), (840, 0), (842, 0), (843, 0), (845, 0), (846, 0), (849, 0), (850, 0), (851, 0), (852, 0), (859, 0)]
def po_X12_beside (kp : Nat → Nat) (L : List Nat) (f0 : Nat → va_E) (h0 : Nat) (u1 : Int32) : Option Value → (Nat → va_E) → Prop := fun v f => (∃ r : Int64, v = some (.long r) ∧ (True)) ∧ FM kp L ms_X12_beside f0 f ∧ (RF rw_X12_beside f0 f h0)
set_option maxHeartbeats 4000000 in
set_option maxRecDepth 100000 in
theorem c_X12_beside (l : Launch) (G : va_G) (cI cJ cZ cD cR cT : ClassId) (kp : Nat → Nat) (L : List Nat) (f0 : Nat → va_E) (hTH : TH cI cJ cZ cD cR cT kp L f0) (sz : Nat) (h0 : Nat) (u1 : Int32) (rh0 : RK kp L h0 12) (hTX : TX (aI (f0 (oR (f0 h0) 2)))) : Met l yX12_beside (Cond.code yX12_beside cX12_beside 7 (some .long) :: wTab) ({ frames := 10, cells := 0, slots := 0, locals := 237 }) (va_Pc [.ref h0, .int u1] (PreW G (tys6 cI cJ cZ cD cR cT) (va_pl L f0) sz)) (QT (po_X12_beside kp L f0 h0 u1) G cI cJ cZ cD cR cT (va_A (va_pl L f0) sz) kp L) 0 0 (va_A (va_pl L f0) sz) := by
  refine metT (by decide) (Nat.le_of_ble_eq_true rfl) hTH ?_
  intro p e s m below meth c A ls E hW hl
  obtain ⟨hx, hb, -, hml, hown, hts, -, -, -⟩ := id E
  have hF : FM kp L ms_X12_beside f0 f0 := FM.rf
  have hl : lv_has ls 7 [(0, .ref h0), (1, .int u1)] := hl
  obtain ⟨pR, mR⟩ : ∃ x : Nat, oR (f0 h0) 2 = x := ⟨_, rfl⟩
  have rR : RK kp L pR 822 := by rw [← mR]; exact th_ref hTH rh0 (by decide) (by decide) rfl
  obtain ⟨p8, mp8⟩ : ∃ x : Int32, aI (f0 pR) (8 : Int32).toNatClampNeg = x := ⟨_, rfl⟩
  have hr8 : (0 : Int) ≤ p8.toInt ∧ p8.toInt ≤ 399 := rr_8 (th_row hTH rR) mp8 rfl
  rw [mR] at hTX
  obtain ⟨pP, mP⟩ : ∃ x : Nat, oR (f0 h0) 4 = x := ⟨_, rfl⟩
  have rP : RK kp L pP 824 := by rw [← mP]; exact th_ref hTH rh0 (by decide) (by decide) rfl
  refine lv_aload_n hx hb dX12_beside_0 rfl (lv_at hl 0 rfl) ?_
  refine lv_iconst (v := 0) hx hb dX12_beside_1 (by decide) ?_
  refine fp_RX12_82 E hW rh0 dX12_beside_2 (fun f1 H locs e2 n3 g4 hW => ?_)
  have z5 : TX (aI (f1 pR)) := by rw [fm_A g4 rR (by decide) rfl]; exact hTX
  have z6 : RF rwi_X12_beside f0 f1 h0 := rf_fm hTH rf_rf g4 rh0 rfl
  have hF := FM.tr hF g4 rfl
  refine lv_aload_n hx hb dX12_beside_5 rfl (lv_at hl 0 rfl) ?_
  refine lv_iload_n hx hb dX12_beside_6 rfl (lv_at hl 1 rfl) ?_
  refine t_callV (As := [.int u1]) (rest := []) E hW (c_X12_isSpan l G cI cJ cZ cD cR cT kp L f1 hW.2.2.2 _ h0 u1 rh0) rh0 (by decide) rfl wk_X12_isSpan tw_2031 rfl ⟨Nat.le_of_ble_eq_true rfl, Nat.le_of_ble_eq_true rfl⟩ ⟨rfl, rfl⟩ hl.1 rfl (Nat.le_of_ble_eq_true rfl) dX12_beside_7 ⟨Nat.le_of_ble_eq_true rfl, Nat.le_of_ble_eq_true rfl⟩ (fun v7 f8 H locs q9 hW => ?_)
  obtain ⟨⟨x11, rfl, p12⟩, g10⟩ := q9
  rw [((fm_R g4 rh0 rfl).trans mR), ((congrArg (fun z => aI z (8 : Int32).toNatClampNeg) (fm_A g4 rR (by decide) rfl)).trans mp8)] at p12
  have m13 : aI (f8 pR) (8 : Int32).toNatClampNeg = p8 := ((congrArg (fun z => aI z (8 : Int32).toNatClampNeg) (fm_A g10 rR (by decide) rfl)).trans ((congrArg (fun z => aI z (8 : Int32).toNatClampNeg) (fm_A g4 rR (by decide) rfl)).trans mp8))
  have z14 : TX (aI (f8 pR)) := by rw [fm_A g10 rR (by decide) rfl]; exact z5
  have z15 : RF rwi_X12_beside f0 f8 h0 := rf_fm hTH z6 g10 rh0 rfl
  have hF := FM.tr hF g10 rfl
  refine q_if_eq (tgt := 24) hx hb dX12_beside_10 (by decide) rfl (fun c16 => ?_) (fun c16 => ?_)
  · clear p12
    refine lv_aload_n hx hb dX12_beside_24 rfl (lv_at hl 0 rfl) ?_
    refine lv_iconst (v := 0) hx hb dX12_beside_25 (by decide) ?_
    refine fp_RX12_174 E hW rh0 (by decide) dX12_beside_26 (fun f17 H locs e18 n19 g20 hW => ?_)
    have z21 : TX (aI (f17 pR)) := by rw [fm_A g20 rR (by decide) rfl]; exact z14
    have z22 : RF rwi_X12_beside f0 f17 h0 := rf_fm hTH z15 g20 rh0 rfl
    have hF := FM.tr hF g20 rfl
    refine lv_ldc2 (v := (-2000000000000)) hx hb hown (hts _ tw_2063) dX12_beside_29 ?_
    exact e_J E hW rfl ⟨⟨_, rfl, trivial⟩, hF, (fun j _ => by rw [mR]; exact congrFun ((congrArg aI (fm_A g20 rR (by decide) rfl)).trans ((congrArg aI (fm_A g10 rR (by decide) rfl)).trans ((congrArg aI (fm_A g4 rR (by decide) rfl)).trans rfl))) j)⟩ dX12_beside_32
  · have q23 : 1 ≤ u1.toInt ∧ u1.toInt ≤ 104 ∧ p8.toInt + u1.toInt ≤ 399 := by omega
    clear p12
    refine lv_aload_n hx hb dX12_beside_13 rfl (lv_at hl 0 rfl) ?_
    refine fg_RX12_8 E hW rh0 dX12_beside_14 (fun a24 m25 r26 => ?_)
    obtain rfl : pR = a24 := (((fm_R g10 rh0 rfl).trans ((fm_R g4 rh0 rfl).trans mR))).symm.trans m25
    refine lv_iconst (v := 3) hx hb dX12_beside_17 (by decide) ?_
    refine gl_822 E hW rR (by decide) dX12_beside_18 (fun y27 m28 b29 => ?_)
    have b30 := rr_3 (show RowInv _ from b29) m28 (by decide)
    refine lv_bipush (v := 20) hx hb dX12_beside_19 (by decide) ?_
    refine q_icmp_ne (Y := 20) (tgt := 33) hx hb dX12_beside_21 (by decide) rfl rfl (fun c31 => ?_) (fun c31 => ?_)
    · refine lv_aload_n hx hb dX12_beside_33 rfl (lv_at hl 0 rfl) ?_
      refine t_callV (As := []) (rest := []) E hW (c_X12_keepPaper l G cI cJ cZ cD cR cT kp L f8 hW.2.2.2 _ h0 rh0) rh0 (by decide) rfl wk_X12_keepPaper tw_2043 rfl ⟨Nat.le_of_ble_eq_true rfl, Nat.le_of_ble_eq_true rfl⟩ ⟨rfl, rfl⟩ hl.1 rfl (Nat.le_of_ble_eq_true rfl) dX12_beside_34 ⟨Nat.le_of_ble_eq_true rfl, Nat.le_of_ble_eq_true rfl⟩ (fun v32 f33 H locs q34 hW => ?_)
      obtain ⟨rfl, g35, h36⟩ := q34
      have z37 : TX (aI (f33 pR)) := by rw [fm_A g35 rR (by decide) rfl]; exact z14
      have z38 : RF rwi_X12_beside f0 f33 h0 := rf_fm hTH z15 g35 rh0 rfl
      have hF := FM.tr hF g35 rfl
      have z39 : CP (aI (f0 pR)) (aI (f33 pP)) 0 0 35942 := by have z := h36; rw [m25, ((fm_R g10 rh0 rfl).trans ((fm_R g4 rh0 rfl).trans mP))] at z; rw [((congrArg aI (fm_A g10 rR (by decide) rfl)).trans ((congrArg aI (fm_A g4 rR (by decide) rfl)).trans rfl))] at z; exact z
      refine lv_aload_n hx hb dX12_beside_37 rfl (lv_at hl 0 rfl) ?_
      refine lv_aload_n hx hb dX12_beside_38 rfl (lv_at hl 0 rfl) ?_
      refine fg_RX12_8 E hW rh0 dX12_beside_39 (fun a40 m41 r42 => ?_)
      obtain rfl : pR = a40 := (((fm_R g35 rh0 rfl).trans m25)).symm.trans m41
      refine lv_bipush (v := 8) hx hb dX12_beside_42 (by decide) ?_
      refine gl_822 E hW rR (by decide) dX12_beside_44 (fun y43 m44 b45 => ?_)
      obtain rfl : p8 = y43 := (((congrArg (fun z => aI z (8 : Int32).toNatClampNeg) (fm_A g35 rR (by decide) rfl)).trans m13)).symm.trans m44
      refine t_callV (As := [.int p8]) (rest := []) E hW (c_X12_readText l G cI cJ cZ cD cR cT kp L f33 hW.2.2.2 _ h0 p8 rh0 (by omega) (by rw [m41]; exact z37) (by rw [m41, ((congrArg (fun z => aI z (3 : Int32).toNatClampNeg) (fm_A g35 rR (by decide) rfl)).trans m28)]; omega)) rh0 (by decide) rfl wk_X12_readText tw_1765 rfl ⟨Nat.le_of_ble_eq_true rfl, Nat.le_of_ble_eq_true rfl⟩ ⟨rfl, rfl⟩ hl.1 rfl (Nat.le_of_ble_eq_true rfl) dX12_beside_45 ⟨Nat.le_of_ble_eq_true rfl, Nat.le_of_ble_eq_true rfl⟩ (fun v46 f47 H locs q48 hW => ?_)
      obtain ⟨⟨x53, rfl, p54⟩, g49, h50, h51, h52⟩ := q48
      have z56 : RF rwi_X12_beside f0 f47 h0 := rf_call z38 h52 mR m41 rfl
      have hF := FM.tr hF g49 rfl
      rcases (by omega : x53.toInt = 0 ∨ x53.toInt = 1) with q57 | q57
      · obtain rfl : (0 : Int32) = x53 := Int32.toInt_inj.mp (Eq.trans (by decide) q57.symm)
        have z58 : aI (f47 pR) = aI (f33 pR) := by have q := h50 rfl; rw [m41] at q; exact q
        refine lv_istore_n (lv' := [(2, .int 0), (0, .ref h0), (1, .int u1)]) hx hb dX12_beside_48 rfl hl (by decide) rfl (fun ls hl => ?_)
        refine lv_aload_n hx hb dX12_beside_49 rfl (lv_at hl 1 rfl) ?_
        refine lv_iconst (v := 0) hx hb dX12_beside_50 (by decide) ?_
        refine fp_RX12_174 E hW rh0 (by decide) dX12_beside_51 (fun f59 H locs e60 n61 g62 hW => ?_)
        have m63 : aI (f59 pR) (8 : Int32).toNatClampNeg = p8 := ((congrArg (fun z => aI z (8 : Int32).toNatClampNeg) (fm_A g62 rR (by decide) rfl)).trans ((show aI (f47 pR) (8 : Int32).toNatClampNeg = aI (f33 pR) (8 : Int32).toNatClampNeg from rf_get h52 m41 8 rfl).trans m44))
        have m64 : aI (f59 pR) = aI (f0 pR) := ((congrArg aI (fm_A g62 rR (by decide) rfl)).trans (z58.trans ((congrArg aI (fm_A g35 rR (by decide) rfl)).trans ((congrArg aI (fm_A g10 rR (by decide) rfl)).trans ((congrArg aI (fm_A g4 rR (by decide) rfl)).trans rfl)))))
        have z65 : TX (aI (f59 pR)) := by rw [fm_A g62 rR (by decide) rfl]; exact (by rw [z58]; exact z37)
        have z66 : RF rwi_X12_beside f0 f59 h0 := rf_fm hTH z56 g62 rh0 rfl
        have hF := FM.tr hF g62 rfl
        refine lv_iload_n hx hb dX12_beside_54 rfl (lv_at hl 0 rfl) ?_
        refine q_if_ne (X := 0) (tgt := 62) hx hb dX12_beside_55 (by decide) rfl (fun c => absurd c (by decide)) (fun _ => ?_)
        refine lv_ldc2 (v := (-2000000000000)) hx hb hown (hts _ tw_2063) dX12_beside_58 ?_
        exact e_J E hW rfl ⟨⟨_, rfl, trivial⟩, hF, (fun j _ => by rw [mR]; exact congrFun m64 j)⟩ dX12_beside_61
      · obtain rfl : (1 : Int32) = x53 := Int32.toInt_inj.mp (Eq.trans (by decide) q57.symm)
        have z67 : TX (aI (f47 pR)) := by have q := h51 rfl; rw [m41] at q; exact q
        refine lv_istore_n (lv' := [(2, .int 1), (0, .ref h0), (1, .int u1)]) hx hb dX12_beside_48 rfl hl (by decide) rfl (fun ls hl => ?_)
        refine lv_aload_n hx hb dX12_beside_49 rfl (lv_at hl 1 rfl) ?_
        refine lv_iconst (v := 0) hx hb dX12_beside_50 (by decide) ?_
        refine fp_RX12_174 E hW rh0 (by decide) dX12_beside_51 (fun f68 H locs e69 n70 g71 hW => ?_)
        have m72 : aI (f68 pR) (8 : Int32).toNatClampNeg = p8 := ((congrArg (fun z => aI z (8 : Int32).toNatClampNeg) (fm_A g71 rR (by decide) rfl)).trans ((show aI (f47 pR) (8 : Int32).toNatClampNeg = aI (f33 pR) (8 : Int32).toNatClampNeg from rf_get h52 m41 8 rfl).trans m44))
        have z73 : TX (aI (f68 pR)) := by rw [fm_A g71 rR (by decide) rfl]; exact z67
        have z74 : RF rwi_X12_beside f0 f68 h0 := rf_fm hTH z56 g71 rh0 rfl
        have hF := FM.tr hF g71 rfl
        refine lv_iload_n hx hb dX12_beside_54 rfl (lv_at hl 0 rfl) ?_
        refine q_if_ne (X := 1) (tgt := 62) hx hb dX12_beside_55 (by decide) rfl (fun _ => ?_) (fun c => absurd c (by decide))
        refine lv_aload_n hx hb dX12_beside_62 rfl (lv_at hl 1 rfl) ?_
        refine lv_iload_n hx hb dX12_beside_63 rfl (lv_at hl 2 rfl) ?_
        refine t_callV (As := [.int u1]) (rest := []) E hW (c_X12_chests l G cI cJ cZ cD cR cT kp L f68 hW.2.2.2 _ h0 u1 rh0 (by omega) (by rw [((fm_R g71 rh0 rfl).trans ((fm_R g49 rh0 rfl).trans m41)), m72]; omega) (by rw [((fm_R g71 rh0 rfl).trans ((fm_R g49 rh0 rfl).trans m41))]; exact z73)) rh0 (by decide) rfl wk_X12_chests tw_2064 rfl ⟨Nat.le_of_ble_eq_true rfl, Nat.le_of_ble_eq_true rfl⟩ ⟨rfl, rfl⟩ hl.1 rfl (Nat.le_of_ble_eq_true rfl) dX12_beside_64 ⟨Nat.le_of_ble_eq_true rfl, Nat.le_of_ble_eq_true rfl⟩ (fun v75 f76 H locs q77 hW => ?_)
        obtain ⟨⟨x80, rfl, p81⟩, g78, h79⟩ := q77
        clear p81
        have z82 : TX (aI (f76 pR)) := tx_rf z73 h79 ((fm_R g71 rh0 rfl).trans ((fm_R g49 rh0 rfl).trans m41)) rfl rfl
        have z83 : RF rwi_X12_beside f0 f76 h0 := rf_call z74 h79 mR ((fm_R g71 rh0 rfl).trans ((fm_R g49 rh0 rfl).trans m41)) rfl
        have hF := FM.tr hF g78 rfl
        refine lv_lstore_n (lv' := [(3, .long x80), (2, .int 1), (0, .ref h0), (1, .int u1)]) hx hb dX12_beside_67 rfl hl (by decide) rfl (fun ls hl => ?_)
        refine lv_aload_n hx hb dX12_beside_68 rfl (lv_at hl 2 rfl) ?_
        refine t_callV (As := []) (rest := []) E hW (c_X12_putBack l G cI cJ cZ cD cR cT kp L f76 hW.2.2.2 _ h0 rh0) rh0 (by decide) rfl wk_X12_putBack tw_2047 rfl ⟨Nat.le_of_ble_eq_true rfl, Nat.le_of_ble_eq_true rfl⟩ ⟨rfl, rfl⟩ hl.1 rfl (Nat.le_of_ble_eq_true rfl) dX12_beside_69 ⟨Nat.le_of_ble_eq_true rfl, Nat.le_of_ble_eq_true rfl⟩ (fun v84 f85 H locs q86 hW => ?_)
        obtain ⟨rfl, g87, h88, h89⟩ := q86
        have m90 : oR (f85 h0) 4 = pP := ((fm_R g87 rh0 rfl).trans ((fm_R g78 rh0 rfl).trans ((fm_R g71 rh0 rfl).trans ((fm_R g49 rh0 rfl).trans ((fm_R g35 rh0 rfl).trans ((fm_R g10 rh0 rfl).trans ((fm_R g4 rh0 rfl).trans mP)))))))
        have m91 : aI (f85 pP) = aI (f33 pP) := ((congrArg aI (fm_A g87 rP (by decide) rfl)).trans ((congrArg aI (fm_A g78 rP (by decide) rfl)).trans ((congrArg aI (fm_A g71 rP (by decide) rfl)).trans ((congrArg aI (fm_A g49 rP (by decide) rfl)).trans rfl))))
        have z93 : RF rwi_X12_beside f0 f85 h0 := rf_call z83 h89 mR ((fm_R g78 rh0 rfl).trans ((fm_R g71 rh0 rfl).trans ((fm_R g49 rh0 rfl).trans m41))) rfl
        have hF := FM.tr hF g87 rfl
        have z94 : CP (aI (f76 pP)) (aI (f85 pR)) 0 0 35942 := by have z := h88; rw [((fm_R g78 rh0 rfl).trans ((fm_R g71 rh0 rfl).trans ((fm_R g49 rh0 rfl).trans ((fm_R g35 rh0 rfl).trans ((fm_R g10 rh0 rfl).trans ((fm_R g4 rh0 rfl).trans mP)))))), ((fm_R g78 rh0 rfl).trans ((fm_R g71 rh0 rfl).trans ((fm_R g49 rh0 rfl).trans m41)))] at z; exact z
        have z95 : aI (f85 pR) = aI (f0 pR) := row_same mR z94 z93 (by rw [((congrArg aI (fm_A g78 rP (by decide) rfl)).trans ((congrArg aI (fm_A g71 rP (by decide) rfl)).trans ((congrArg aI (fm_A g49 rP (by decide) rfl)).trans rfl)))]; exact z39) rfl
        refine lv_aload_n hx hb dX12_beside_72 rfl (lv_at hl 2 rfl) ?_
        refine lv_iload_n hx hb dX12_beside_73 rfl (lv_at hl 3 rfl) ?_
        refine t_callV (As := [.int u1]) (rest := []) E hW (c_X12_chests l G cI cJ cZ cD cR cT kp L f85 hW.2.2.2 _ h0 u1 rh0 (by omega) (by rw [((fm_R g87 rh0 rfl).trans ((fm_R g78 rh0 rfl).trans ((fm_R g71 rh0 rfl).trans ((fm_R g49 rh0 rfl).trans m41)))), (show aI (f85 pR) (8 : Int32).toNatClampNeg = p8 from by rw [z95]; exact mp8)]; omega) (by rw [((fm_R g87 rh0 rfl).trans ((fm_R g78 rh0 rfl).trans ((fm_R g71 rh0 rfl).trans ((fm_R g49 rh0 rfl).trans m41))))]; exact (by rw [z95]; exact hTX))) rh0 (by decide) rfl wk_X12_chests tw_2064 rfl ⟨Nat.le_of_ble_eq_true rfl, Nat.le_of_ble_eq_true rfl⟩ ⟨rfl, rfl⟩ hl.1 rfl (Nat.le_of_ble_eq_true rfl) dX12_beside_74 ⟨Nat.le_of_ble_eq_true rfl, Nat.le_of_ble_eq_true rfl⟩ (fun v96 f97 H locs q98 hW => ?_)
        obtain ⟨⟨x101, rfl, p102⟩, g99, h100⟩ := q98
        clear p102
        have m103 : oI (f97 h0) 0 = 0 := ((fm_I g99 rh0 rfl).trans ((fm_I g87 rh0 rfl).trans ((fm_I g78 rh0 rfl).trans ((fm_I g71 rh0 rfl).trans ((fm_I g49 rh0 rfl).trans ((fm_I g35 rh0 rfl).trans ((fm_I g10 rh0 rfl).trans e2)))))))
        have z104 : TX (aI (f97 pR)) := tx_rf (by rw [z95]; exact hTX) h100 ((fm_R g87 rh0 rfl).trans ((fm_R g78 rh0 rfl).trans ((fm_R g71 rh0 rfl).trans ((fm_R g49 rh0 rfl).trans m41)))) rfl rfl
        have z105 : RF rwi_X12_beside f0 f97 h0 := rf_call z93 h100 mR ((fm_R g87 rh0 rfl).trans ((fm_R g78 rh0 rfl).trans ((fm_R g71 rh0 rfl).trans ((fm_R g49 rh0 rfl).trans m41)))) rfl
        have hF := FM.tr hF g99 rfl
        refine lv_lstore (lv' := [(5, .long x101), (3, .long x80), (2, .int 1), (0, .ref h0), (1, .int u1)]) hx hb dX12_beside_77 hl (by decide) rfl (fun ls hl => ?_)
        refine lv_aload_n hx hb dX12_beside_79 rfl (lv_at hl 3 rfl) ?_
        refine t_callV (As := []) (rest := []) E hW (c_X12_putBack l G cI cJ cZ cD cR cT kp L f97 hW.2.2.2 _ h0 rh0) rh0 (by decide) rfl wk_X12_putBack tw_2047 rfl ⟨Nat.le_of_ble_eq_true rfl, Nat.le_of_ble_eq_true rfl⟩ ⟨rfl, rfl⟩ hl.1 rfl (Nat.le_of_ble_eq_true rfl) dX12_beside_80 ⟨Nat.le_of_ble_eq_true rfl, Nat.le_of_ble_eq_true rfl⟩ (fun v106 f107 H locs q108 hW => ?_)
        obtain ⟨rfl, g109, h110, h111⟩ := q108
        have z113 : RF rwi_X12_beside f0 f107 h0 := rf_call z105 h111 mR ((fm_R g99 rh0 rfl).trans ((fm_R g87 rh0 rfl).trans ((fm_R g78 rh0 rfl).trans ((fm_R g71 rh0 rfl).trans ((fm_R g49 rh0 rfl).trans m41))))) rfl
        have hF := FM.tr hF g109 rfl
        have z114 : CP (aI (f97 pP)) (aI (f107 pR)) 0 0 35942 := by have z := h110; rw [((fm_R g99 rh0 rfl).trans m90), ((fm_R g99 rh0 rfl).trans ((fm_R g87 rh0 rfl).trans ((fm_R g78 rh0 rfl).trans ((fm_R g71 rh0 rfl).trans ((fm_R g49 rh0 rfl).trans m41)))))] at z; exact z
        have z115 : aI (f107 pR) = aI (f0 pR) := row_same mR z114 z113 (by rw [((congrArg aI (fm_A g99 rP (by decide) rfl)).trans m91)]; exact z39) rfl
        refine lv_lload_n hx hb dX12_beside_83 rfl (lv_at hl 1 rfl) ?_
        refine lv_lload hx hb dX12_beside_84 (lv_at hl 0 rfl) ?_
        refine u_lsub hx hb dX12_beside_86 (fun x116 => ?_)
        exact e_J E hW rfl ⟨⟨_, rfl, trivial⟩, hF, (fun j _ => by rw [mR]; exact congrFun z115 j)⟩ dX12_beside_87
    · refine lv_aload_n hx hb dX12_beside_24 rfl (lv_at hl 0 rfl) ?_
      refine lv_iconst (v := 0) hx hb dX12_beside_25 (by decide) ?_
      refine fp_RX12_174 E hW rh0 (by decide) dX12_beside_26 (fun f117 H locs e118 n119 g120 hW => ?_)
      have z121 : TX (aI (f117 pR)) := by rw [fm_A g120 rR (by decide) rfl]; exact z14
      have z122 : RF rwi_X12_beside f0 f117 h0 := rf_fm hTH z15 g120 rh0 rfl
      have hF := FM.tr hF g120 rfl
      refine lv_ldc2 (v := (-2000000000000)) hx hb hown (hts _ tw_2063) dX12_beside_29 ?_
      exact e_J E hW rfl ⟨⟨_, rfl, trivial⟩, hF, (fun j _ => by rw [mR]; exact congrFun ((congrArg aI (fm_A g120 rR (by decide) rfl)).trans ((congrArg aI (fm_A g10 rR (by decide) rfl)).trans ((congrArg aI (fm_A g4 rR (by decide) rfl)).trans rfl))) j)⟩ dX12_beside_32
