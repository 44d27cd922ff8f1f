theorem dX12_isSmall_0 : decode cX12_isSmall 0 = .ok (.iload_n 0, 1) := by decide +kernel
theorem dX12_isSmall_1 : decode cX12_isSmall 1 = .ok (.bipush 97, 2) := by decide +kernel
theorem dX12_isSmall_3 : decode cX12_isSmall 3 = .ok (.if_icmp .lt 13, 3) := by decide +kernel
theorem dX12_isSmall_16 : decode cX12_isSmall 16 = .ok (.iconst 0, 1) := by decide +kernel
theorem dX12_isSmall_17 : decode cX12_isSmall 17 = .ok (.ireturn, 1) := by decide +kernel
theorem dX12_isSmall_6 : decode cX12_isSmall 6 = .ok (.iload_n 0, 1) := by decide +kernel
theorem dX12_isSmall_7 : decode cX12_isSmall 7 = .ok (.bipush 122, 2) := by decide +kernel
theorem dX12_isSmall_9 : decode cX12_isSmall 9 = .ok (.if_icmp .gt 7, 3) := by decide +kernel
theorem dX12_isSmall_12 : decode cX12_isSmall 12 = .ok (.iconst 1, 1) := by decide +kernel
theorem dX12_isSmall_13 : decode cX12_isSmall 13 = .ok (.goto 4, 3) := by decide +kernel
theorem dX12_isDigit_0 : decode cX12_isDigit 0 = .ok (.iload_n 0, 1) := by decide +kernel
theorem dX12_isDigit_1 : decode cX12_isDigit 1 = .ok (.bipush 48, 2) := by decide +kernel
theorem dX12_isDigit_3 : decode cX12_isDigit 3 = .ok (.if_icmp .lt 13, 3) := by decide +kernel
theorem dX12_isDigit_16 : decode cX12_isDigit 16 = .ok (.iconst 0, 1) := by decide +kernel
theorem dX12_isDigit_17 : decode cX12_isDigit 17 = .ok (.ireturn, 1) := by decide +kernel
theorem dX12_isDigit_6 : decode cX12_isDigit 6 = .ok (.iload_n 0, 1) := by decide +kernel
theorem dX12_isDigit_7 : decode cX12_isDigit 7 = .ok (.bipush 57, 2) := by decide +kernel
theorem dX12_isDigit_9 : decode cX12_isDigit 9 = .ok (.if_icmp .gt 7, 3) := by decide +kernel
theorem dX12_isDigit_12 : decode cX12_isDigit 12 = .ok (.iconst 1, 1) := by decide +kernel
theorem dX12_isDigit_13 : decode cX12_isDigit 13 = .ok (.goto 4, 3) := by decide +kernel
theorem dX12_isWord_0 : decode cX12_isWord 0 = .ok (.aload_n 0, 1) := by decide +kernel
theorem dX12_isWord_1 : decode cX12_isWord 1 = .ok (.getfield 212, 3) := by decide +kernel
theorem dX12_isWord_4 : decode cX12_isWord 4 = .ok (.iconst 1, 1) := by decide +kernel
theorem dX12_isWord_5 : decode cX12_isWord 5 = .ok (.if_icmp .ne 16, 3) := by decide +kernel
theorem dX12_isWord_21 : decode cX12_isWord 21 = .ok (.iconst 0, 1) := by decide +kernel
theorem dX12_isWord_22 : decode cX12_isWord 22 = .ok (.ireturn, 1) := by decide +kernel
theorem dX12_isWord_8 : decode cX12_isWord 8 = .ok (.aload_n 0, 1) := by decide +kernel
theorem dX12_isWord_9 : decode cX12_isWord 9 = .ok (.getfield 202, 3) := by decide +kernel
theorem dX12_isWord_12 : decode cX12_isWord 12 = .ok (.lload_n 1, 1) := by decide +kernel
theorem dX12_isWord_13 : decode cX12_isWord 13 = .ok (.lcmp, 1) := by decide +kernel
theorem dX12_isWord_14 : decode cX12_isWord 14 = .ok (.ifCond .ne 7, 3) := by decide +kernel
theorem dX12_isWord_17 : decode cX12_isWord 17 = .ok (.iconst 1, 1) := by decide +kernel
theorem dX12_isWord_18 : decode cX12_isWord 18 = .ok (.goto 4, 3) := by decide +kernel
theorem dX12_isSign_0 : decode cX12_isSign 0 = .ok (.aload_n 0, 1) := by decide +kernel
theorem dX12_isSign_1 : decode cX12_isSign 1 = .ok (.getfield 212, 3) := by decide +kernel
theorem dX12_isSign_4 : decode cX12_isSign 4 = .ok (.iconst 3, 1) := by decide +kernel
theorem dX12_isSign_5 : decode cX12_isSign 5 = .ok (.if_icmp .ne 17, 3) := by decide +kernel
theorem dX12_isSign_22 : decode cX12_isSign 22 = .ok (.iconst 0, 1) := by decide +kernel
theorem dX12_isSign_23 : decode cX12_isSign 23 = .ok (.ireturn, 1) := by decide +kernel
theorem dX12_isSign_8 : decode cX12_isSign 8 = .ok (.aload_n 0, 1) := by decide +kernel
theorem dX12_isSign_9 : decode cX12_isSign 9 = .ok (.getfield 202, 3) := by decide +kernel
theorem dX12_isSign_12 : decode cX12_isSign 12 = .ok (.iload_n 1, 1) := by decide +kernel
theorem dX12_isSign_13 : decode cX12_isSign 13 = .ok (.i2l, 1) := by decide +kernel
theorem dX12_isSign_14 : decode cX12_isSign 14 = .ok (.lcmp, 1) := by decide +kernel
theorem dX12_isSign_15 : decode cX12_isSign 15 = .ok (.ifCond .ne 7, 3) := by decide +kernel
theorem dX12_isSign_18 : decode cX12_isSign 18 = .ok (.iconst 1, 1) := by decide +kernel
theorem dX12_isSign_19 : decode cX12_isSign 19 = .ok (.goto 4, 3) := by decide +kernel
theorem dX12_next_0 : decode cX12_next 0 = .ok (.aload_n 0, 1) := by decide +kernel
theorem dX12_next_1 : decode cX12_next 1 = .ok (.aload_n 0, 1) := by decide +kernel
theorem dX12_next_2 : decode cX12_next 2 = .ok (.getfield 190, 3) := by decide +kernel
theorem dX12_next_5 : decode cX12_next 5 = .ok (.putfield 199, 3) := by decide +kernel
theorem dX12_next_8 : decode cX12_next 8 = .ok (.aload_n 0, 1) := by decide +kernel
theorem dX12_next_9 : decode cX12_next 9 = .ok (.getfield 199, 3) := by decide +kernel
theorem dX12_next_12 : decode cX12_next 12 = .ok (.aload_n 0, 1) := by decide +kernel
theorem dX12_next_13 : decode cX12_next 13 = .ok (.getfield 174, 3) := by decide +kernel
theorem dX12_next_16 : decode cX12_next 16 = .ok (.if_icmp .ge 30, 3) := by decide +kernel
theorem dX12_next_46 : decode cX12_next 46 = .ok (.aload_n 0, 1) := by decide +kernel
theorem dX12_next_47 : decode cX12_next 47 = .ok (.aload_n 0, 1) := by decide +kernel
theorem dX12_next_48 : decode cX12_next 48 = .ok (.getfield 199, 3) := by decide +kernel
theorem dX12_next_51 : decode cX12_next 51 = .ok (.putfield 190, 3) := by decide +kernel
theorem dX12_next_54 : decode cX12_next 54 = .ok (.aload_n 0, 1) := by decide +kernel
theorem dX12_next_55 : decode cX12_next 55 = .ok (.lconst 0, 1) := by decide +kernel
theorem dX12_next_56 : decode cX12_next 56 = .ok (.putfield 202, 3) := by decide +kernel
theorem dX12_next_59 : decode cX12_next 59 = .ok (.aload_n 0, 1) := by decide +kernel
theorem dX12_next_60 : decode cX12_next 60 = .ok (.aload_n 0, 1) := by decide +kernel
theorem dX12_next_61 : decode cX12_next 61 = .ok (.getfield 199, 3) := by decide +kernel
theorem dX12_next_64 : decode cX12_next 64 = .ok (.aload_n 0, 1) := by decide +kernel
theorem dX12_next_65 : decode cX12_next 65 = .ok (.getfield 174, 3) := by decide +kernel
theorem dX12_next_68 : decode cX12_next 68 = .ok (.if_icmp .ne 7, 3) := by decide +kernel
theorem dX12_next_75 : decode cX12_next 75 = .ok (.aload_n 0, 1) := by decide +kernel
theorem dX12_next_76 : decode cX12_next 76 = .ok (.getfield 32, 3) := by decide +kernel
theorem dX12_next_79 : decode cX12_next 79 = .ok (.aload_n 0, 1) := by decide +kernel
theorem dX12_next_80 : decode cX12_next 80 = .ok (.getfield 199, 3) := by decide +kernel
theorem dX12_next_83 : decode cX12_next 83 = .ok (.iaload, 1) := by decide +kernel
theorem dX12_next_84 : decode cX12_next 84 = .ok (.invokestatic 206, 3) := by decide +kernel
theorem dX12_next_87 : decode cX12_next 87 = .ok (.ifCond .eq 7, 3) := by decide +kernel
theorem dX12_next_94 : decode cX12_next 94 = .ok (.aload_n 0, 1) := by decide +kernel
theorem dX12_next_95 : decode cX12_next 95 = .ok (.getfield 32, 3) := by decide +kernel
theorem dX12_next_98 : decode cX12_next 98 = .ok (.aload_n 0, 1) := by decide +kernel
theorem dX12_next_99 : decode cX12_next 99 = .ok (.getfield 199, 3) := by decide +kernel
theorem dX12_next_102 : decode cX12_next 102 = .ok (.iaload, 1) := by decide +kernel
theorem dX12_next_103 : decode cX12_next 103 = .ok (.invokestatic 209, 3) := by decide +kernel
theorem dX12_next_106 : decode cX12_next 106 = .ok (.ifCond .eq 7, 3) := by decide +kernel
theorem dX12_next_113 : decode cX12_next 113 = .ok (.iconst 3, 1) := by decide +kernel
theorem dX12_next_114 : decode cX12_next 114 = .ok (.putfield 212, 3) := by decide +kernel
theorem dX12_next_117 : decode cX12_next 117 = .ok (.aload_n 0, 1) := by decide +kernel
theorem dX12_next_118 : decode cX12_next 118 = .ok (.getfield 212, 3) := by decide +kernel
theorem dX12_next_121 : decode cX12_next 121 = .ok (.iconst 3, 1) := by decide +kernel
theorem dX12_next_122 : decode cX12_next 122 = .ok (.if_icmp .ne 27, 3) := by decide +kernel
theorem dX12_next_125 : decode cX12_next 125 = .ok (.aload_n 0, 1) := by decide +kernel
theorem dX12_next_126 : decode cX12_next 126 = .ok (.aload_n 0, 1) := by decide +kernel
theorem dX12_next_127 : decode cX12_next 127 = .ok (.getfield 32, 3) := by decide +kernel
theorem dX12_next_130 : decode cX12_next 130 = .ok (.aload_n 0, 1) := by decide +kernel
theorem dX12_next_131 : decode cX12_next 131 = .ok (.getfield 199, 3) := by decide +kernel
theorem dX12_next_134 : decode cX12_next 134 = .ok (.iaload, 1) := by decide +kernel
theorem dX12_next_135 : decode cX12_next 135 = .ok (.i2l, 1) := by decide +kernel
theorem dX12_next_136 : decode cX12_next 136 = .ok (.putfield 202, 3) := by decide +kernel
theorem dX12_next_139 : decode cX12_next 139 = .ok (.aload_n 0, 1) := by decide +kernel
theorem dX12_next_140 : decode cX12_next 140 = .ok (.dup, 1) := by decide +kernel
theorem dX12_next_141 : decode cX12_next 141 = .ok (.getfield 190, 3) := by decide +kernel
theorem dX12_next_144 : decode cX12_next 144 = .ok (.iconst 1, 1) := by decide +kernel
theorem dX12_next_145 : decode cX12_next 145 = .ok (.iadd, 1) := by decide +kernel
theorem dX12_next_146 : decode cX12_next 146 = .ok (.putfield 190, 3) := by decide +kernel
theorem dX12_next_149 : decode cX12_next 149 = .ok (.aload_n 0, 1) := by decide +kernel
theorem dX12_next_150 : decode cX12_next 150 = .ok (.getfield 212, 3) := by decide +kernel
theorem dX12_next_153 : decode cX12_next 153 = .ok (.iconst 1, 1) := by decide +kernel
theorem dX12_next_154 : decode cX12_next 154 = .ok (.if_icmp .ne 89, 3) := by decide +kernel
theorem dX12_next_243 : decode cX12_next 243 = .ok (.aload_n 0, 1) := by decide +kernel
theorem dX12_next_244 : decode cX12_next 244 = .ok (.getfield 212, 3) := by decide +kernel
theorem dX12_next_247 : decode cX12_next 247 = .ok (.iconst 2, 1) := by decide +kernel
theorem dX12_next_248 : decode cX12_next 248 = .ok (.if_icmp .ne 87, 3) := by decide +kernel
theorem dX12_next_335 : decode cX12_next 335 = .ok (.return_, 1) := by decide +kernel
theorem dX12_next_109 : decode cX12_next 109 = .ok (.iconst 2, 1) := by decide +kernel
theorem dX12_next_110 : decode cX12_next 110 = .ok (.goto 4, 3) := by decide +kernel
theorem dX12_next_251 : decode cX12_next 251 = .ok (.aload_n 0, 1) := by decide +kernel
theorem dX12_next_252 : decode cX12_next 252 = .ok (.getfield 190, 3) := by decide +kernel
theorem dX12_next_255 : decode cX12_next 255 = .ok (.aload_n 0, 1) := by decide +kernel
theorem dX12_next_256 : decode cX12_next 256 = .ok (.getfield 174, 3) := by decide +kernel
theorem dX12_next_259 : decode cX12_next 259 = .ok (.if_icmp .ge 76, 3) := by decide +kernel
theorem dX12_next_262 : decode cX12_next 262 = .ok (.aload_n 0, 1) := by decide +kernel
theorem dX12_next_263 : decode cX12_next 263 = .ok (.getfield 32, 3) := by decide +kernel
theorem dX12_next_266 : decode cX12_next 266 = .ok (.aload_n 0, 1) := by decide +kernel
theorem dX12_next_267 : decode cX12_next 267 = .ok (.getfield 190, 3) := by decide +kernel
theorem dX12_next_270 : decode cX12_next 270 = .ok (.iaload, 1) := by decide +kernel
theorem dX12_next_271 : decode cX12_next 271 = .ok (.invokestatic 209, 3) := by decide +kernel
theorem dX12_next_274 : decode cX12_next 274 = .ok (.ifCond .eq 61, 3) := by decide +kernel
theorem dX12_next_277 : decode cX12_next 277 = .ok (.aload_n 0, 1) := by decide +kernel
theorem dX12_next_278 : decode cX12_next 278 = .ok (.aload_n 0, 1) := by decide +kernel
theorem dX12_next_279 : decode cX12_next 279 = .ok (.getfield 202, 3) := by decide +kernel
theorem dX12_next_282 : decode cX12_next 282 = .ok (.ldc2_w 100, 3) := by decide +kernel
theorem dX12_next_285 : decode cX12_next 285 = .ok (.lcmp, 1) := by decide +kernel
theorem dX12_next_286 : decode cX12_next 286 = .ok (.ifCond .le 10, 3) := by decide +kernel
theorem dX12_next_296 : decode cX12_next 296 = .ok (.aload_n 0, 1) := by decide +kernel
theorem dX12_next_297 : decode cX12_next 297 = .ok (.getfield 202, 3) := by decide +kernel
theorem dX12_next_300 : decode cX12_next 300 = .ok (.ldc2_w 221, 3) := by decide +kernel
theorem dX12_next_303 : decode cX12_next 303 = .ok (.lmul, 1) := by decide +kernel
theorem dX12_next_304 : decode cX12_next 304 = .ok (.aload_n 0, 1) := by decide +kernel
theorem dX12_next_305 : decode cX12_next 305 = .ok (.getfield 32, 3) := by decide +kernel
theorem dX12_next_308 : decode cX12_next 308 = .ok (.aload_n 0, 1) := by decide +kernel
theorem dX12_next_309 : decode cX12_next 309 = .ok (.getfield 190, 3) := by decide +kernel
theorem dX12_next_312 : decode cX12_next 312 = .ok (.iaload, 1) := by decide +kernel
theorem dX12_next_313 : decode cX12_next 313 = .ok (.i2l, 1) := by decide +kernel
theorem dX12_next_314 : decode cX12_next 314 = .ok (.ladd, 1) := by decide +kernel
theorem dX12_next_315 : decode cX12_next 315 = .ok (.ldc2_w 223, 3) := by decide +kernel
theorem dX12_next_318 : decode cX12_next 318 = .ok (.lsub, 1) := by decide +kernel
theorem dX12_next_319 : decode cX12_next 319 = .ok (.putfield 202, 3) := by decide +kernel
theorem dX12_next_322 : decode cX12_next 322 = .ok (.aload_n 0, 1) := by decide +kernel
theorem dX12_next_323 : decode cX12_next 323 = .ok (.dup, 1) := by decide +kernel
theorem dX12_next_324 : decode cX12_next 324 = .ok (.getfield 190, 3) := by decide +kernel
theorem dX12_next_327 : decode cX12_next 327 = .ok (.iconst 1, 1) := by decide +kernel
theorem dX12_next_328 : decode cX12_next 328 = .ok (.iadd, 1) := by decide +kernel
theorem dX12_next_329 : decode cX12_next 329 = .ok (.putfield 190, 3) := by decide +kernel
theorem dX12_next_332 : decode cX12_next 332 = .ok (.goto (-89), 3) := by decide +kernel
theorem dX12_next_289 : decode cX12_next 289 = .ok (.aload_n 0, 1) := by decide +kernel
theorem dX12_next_290 : decode cX12_next 290 = .ok (.getfield 202, 3) := by decide +kernel
theorem dX12_next_293 : decode cX12_next 293 = .ok (.goto 26, 3) := by decide +kernel
theorem dX12_next_90 : decode cX12_next 90 = .ok (.iconst 1, 1) := by decide +kernel
theorem dX12_next_91 : decode cX12_next 91 = .ok (.goto 23, 3) := by decide +kernel
theorem dX12_next_157 : decode cX12_next 157 = .ok (.aload_n 0, 1) := by decide +kernel
theorem dX12_next_158 : decode cX12_next 158 = .ok (.getfield 190, 3) := by decide +kernel
theorem dX12_next_161 : decode cX12_next 161 = .ok (.aload_n 0, 1) := by decide +kernel
theorem dX12_next_162 : decode cX12_next 162 = .ok (.getfield 174, 3) := by decide +kernel
theorem dX12_next_165 : decode cX12_next 165 = .ok (.if_icmp .ge 78, 3) := by decide +kernel
theorem dX12_next_168 : decode cX12_next 168 = .ok (.aload_n 0, 1) := by decide +kernel
theorem dX12_next_169 : decode cX12_next 169 = .ok (.getfield 32, 3) := by decide +kernel
theorem dX12_next_172 : decode cX12_next 172 = .ok (.aload_n 0, 1) := by decide +kernel
theorem dX12_next_173 : decode cX12_next 173 = .ok (.getfield 190, 3) := by decide +kernel
theorem dX12_next_176 : decode cX12_next 176 = .ok (.iaload, 1) := by decide +kernel
theorem dX12_next_177 : decode cX12_next 177 = .ok (.invokestatic 206, 3) := by decide +kernel
theorem dX12_next_180 : decode cX12_next 180 = .ok (.ifCond .eq 63, 3) := by decide +kernel
theorem dX12_next_183 : decode cX12_next 183 = .ok (.aload_n 0, 1) := by decide +kernel
theorem dX12_next_184 : decode cX12_next 184 = .ok (.aload_n 0, 1) := by decide +kernel
theorem dX12_next_185 : decode cX12_next 185 = .ok (.getfield 190, 3) := by decide +kernel
theorem dX12_next_188 : decode cX12_next 188 = .ok (.aload_n 0, 1) := by decide +kernel
theorem dX12_next_189 : decode cX12_next 189 = .ok (.getfield 199, 3) := by decide +kernel
theorem dX12_next_192 : decode cX12_next 192 = .ok (.isub, 1) := by decide +kernel
theorem dX12_next_193 : decode cX12_next 193 = .ok (.bipush 10, 2) := by decide +kernel
theorem dX12_next_195 : decode cX12_next 195 = .ok (.if_icmp .ge 29, 3) := by decide +kernel
theorem dX12_next_198 : decode cX12_next 198 = .ok (.aload_n 0, 1) := by decide +kernel
theorem dX12_next_199 : decode cX12_next 199 = .ok (.getfield 202, 3) := by decide +kernel
theorem dX12_next_202 : decode cX12_next 202 = .ok (.ldc2_w 215, 3) := by decide +kernel
theorem dX12_next_205 : decode cX12_next 205 = .ok (.lmul, 1) := by decide +kernel
theorem dX12_next_206 : decode cX12_next 206 = .ok (.aload_n 0, 1) := by decide +kernel
theorem dX12_next_207 : decode cX12_next 207 = .ok (.getfield 32, 3) := by decide +kernel
theorem dX12_next_210 : decode cX12_next 210 = .ok (.aload_n 0, 1) := by decide +kernel
theorem dX12_next_211 : decode cX12_next 211 = .ok (.getfield 190, 3) := by decide +kernel
theorem dX12_next_214 : decode cX12_next 214 = .ok (.iaload, 1) := by decide +kernel
theorem dX12_next_215 : decode cX12_next 215 = .ok (.i2l, 1) := by decide +kernel
theorem dX12_next_216 : decode cX12_next 216 = .ok (.ladd, 1) := by decide +kernel
theorem dX12_next_217 : decode cX12_next 217 = .ok (.ldc2_w 217, 3) := by decide +kernel
theorem dX12_next_220 : decode cX12_next 220 = .ok (.lsub, 1) := by decide +kernel
theorem dX12_next_221 : decode cX12_next 221 = .ok (.goto 6, 3) := by decide +kernel
theorem dX12_next_227 : decode cX12_next 227 = .ok (.putfield 202, 3) := by decide +kernel
theorem dX12_next_230 : decode cX12_next 230 = .ok (.aload_n 0, 1) := by decide +kernel
theorem dX12_next_231 : decode cX12_next 231 = .ok (.dup, 1) := by decide +kernel
theorem dX12_next_232 : decode cX12_next 232 = .ok (.getfield 190, 3) := by decide +kernel
theorem dX12_next_235 : decode cX12_next 235 = .ok (.iconst 1, 1) := by decide +kernel
theorem dX12_next_236 : decode cX12_next 236 = .ok (.iadd, 1) := by decide +kernel
theorem dX12_next_237 : decode cX12_next 237 = .ok (.putfield 190, 3) := by decide +kernel
theorem dX12_next_240 : decode cX12_next 240 = .ok (.goto (-91), 3) := by decide +kernel
theorem dX12_next_224 : decode cX12_next 224 = .ok (.ldc2_w 219, 3) := by decide +kernel
theorem dX12_next_71 : decode cX12_next 71 = .ok (.iconst 0, 1) := by decide +kernel
theorem dX12_next_72 : decode cX12_next 72 = .ok (.goto 42, 3) := by decide +kernel
theorem dX12_next_19 : decode cX12_next 19 = .ok (.aload_n 0, 1) := by decide +kernel
theorem dX12_next_20 : decode cX12_next 20 = .ok (.getfield 32, 3) := by decide +kernel
theorem dX12_next_23 : decode cX12_next 23 = .ok (.aload_n 0, 1) := by decide +kernel
theorem dX12_next_24 : decode cX12_next 24 = .ok (.getfield 199, 3) := by decide +kernel
theorem dX12_next_27 : decode cX12_next 27 = .ok (.iaload, 1) := by decide +kernel
theorem dX12_next_28 : decode cX12_next 28 = .ok (.bipush 32, 2) := by decide +kernel
theorem dX12_next_30 : decode cX12_next 30 = .ok (.if_icmp .ne 16, 3) := by decide +kernel
theorem dX12_next_33 : decode cX12_next 33 = .ok (.aload_n 0, 1) := by decide +kernel
theorem dX12_next_34 : decode cX12_next 34 = .ok (.dup, 1) := by decide +kernel
theorem dX12_next_35 : decode cX12_next 35 = .ok (.getfield 199, 3) := by decide +kernel
theorem dX12_next_38 : decode cX12_next 38 = .ok (.iconst 1, 1) := by decide +kernel
theorem dX12_next_39 : decode cX12_next 39 = .ok (.iadd, 1) := by decide +kernel
theorem dX12_next_40 : decode cX12_next 40 = .ok (.putfield 199, 3) := by decide +kernel
theorem dX12_next_43 : decode cX12_next 43 = .ok (.goto (-35), 3) := by decide +kernel
theorem dX12_must_0 : decode cX12_must 0 = .ok (.aload_n 0, 1) := by decide +kernel
theorem dX12_must_1 : decode cX12_must 1 = .ok (.getfield 193, 3) := by decide +kernel
theorem dX12_must_4 : decode cX12_must 4 = .ok (.ifCond .ne 20, 3) := by decide +kernel
theorem dX12_must_24 : decode cX12_must 24 = .ok (.aload_n 0, 1) := by decide +kernel
theorem dX12_must_25 : decode cX12_must 25 = .ok (.getfield 193, 3) := by decide +kernel
theorem dX12_must_28 : decode cX12_must 28 = .ok (.ifCond .ne 7, 3) := by decide +kernel
theorem dX12_must_35 : decode cX12_must 35 = .ok (.return_, 1) := by decide +kernel
theorem dX12_must_7 : decode cX12_must 7 = .ok (.iload_n 1, 1) := by decide +kernel
theorem dX12_must_8 : decode cX12_must 8 = .ok (.ifCond .ne 16, 3) := by decide +kernel
theorem dX12_must_31 : decode cX12_must 31 = .ok (.aload_n 0, 1) := by decide +kernel
theorem dX12_must_32 : decode cX12_must 32 = .ok (.invokevirtual 196, 3) := by decide +kernel
theorem dX12_must_11 : decode cX12_must 11 = .ok (.aload_n 0, 1) := by decide +kernel
theorem dX12_must_12 : decode cX12_must 12 = .ok (.iconst 1, 1) := by decide +kernel
theorem dX12_must_13 : decode cX12_must 13 = .ok (.putfield 193, 3) := by decide +kernel
theorem dX12_must_16 : decode cX12_must 16 = .ok (.aload_n 0, 1) := by decide +kernel
theorem dX12_must_17 : decode cX12_must 17 = .ok (.aload_n 0, 1) := by decide +kernel
theorem dX12_must_18 : decode cX12_must 18 = .ok (.getfield 199, 3) := by decide +kernel
theorem dX12_must_21 : decode cX12_must 21 = .ok (.putfield 35, 3) := by decide +kernel
theorem dX12_begin_0 : decode cX12_begin 0 = .ok (.aload_n 0, 1) := by decide +kernel
theorem dX12_begin_1 : decode cX12_begin 1 = .ok (.iconst 0, 1) := by decide +kernel
theorem dX12_begin_2 : decode cX12_begin 2 = .ok (.putfield 190, 3) := by decide +kernel
theorem dX12_begin_5 : decode cX12_begin 5 = .ok (.aload_n 0, 1) := by decide +kernel
theorem dX12_begin_6 : decode cX12_begin 6 = .ok (.iconst 0, 1) := by decide +kernel
theorem dX12_begin_7 : decode cX12_begin 7 = .ok (.putfield 193, 3) := by decide +kernel
theorem dX12_begin_10 : decode cX12_begin 10 = .ok (.aload_n 0, 1) := by decide +kernel
theorem dX12_begin_11 : decode cX12_begin 11 = .ok (.iconst (-1), 1) := by decide +kernel
theorem dX12_begin_12 : decode cX12_begin 12 = .ok (.putfield 35, 3) := by decide +kernel
theorem dX12_begin_15 : decode cX12_begin 15 = .ok (.aload_n 0, 1) := by decide +kernel
theorem dX12_begin_16 : decode cX12_begin 16 = .ok (.invokevirtual 196, 3) := by decide +kernel
theorem dX12_begin_19 : decode cX12_begin 19 = .ok (.return_, 1) := by decide +kernel
theorem dX12_number_0 : decode cX12_number 0 = .ok (.aload_n 0, 1) := by decide +kernel
theorem dX12_number_1 : decode cX12_number 1 = .ok (.getfield 202, 3) := by decide +kernel
theorem dX12_number_4 : decode cX12_number 4 = .ok (.l2i, 1) := by decide +kernel
theorem dX12_number_5 : decode cX12_number 5 = .ok (.istore 5, 2) := by decide +kernel
theorem dX12_number_7 : decode cX12_number 7 = .ok (.aload_n 0, 1) := by decide +kernel
theorem dX12_number_8 : decode cX12_number 8 = .ok (.aload_n 0, 1) := by decide +kernel
theorem dX12_number_9 : decode cX12_number 9 = .ok (.getfield 212, 3) := by decide +kernel
theorem dX12_number_12 : decode cX12_number 12 = .ok (.iconst 2, 1) := by decide +kernel
theorem dX12_number_13 : decode cX12_number 13 = .ok (.if_icmp .ne 19, 3) := by decide +kernel
theorem dX12_number_32 : decode cX12_number 32 = .ok (.iconst 0, 1) := by decide +kernel
theorem dX12_number_33 : decode cX12_number 33 = .ok (.invokevirtual 225, 3) := by decide +kernel
theorem dX12_number_36 : decode cX12_number 36 = .ok (.iload 5, 2) := by decide +kernel
theorem dX12_number_38 : decode cX12_number 38 = .ok (.ireturn, 1) := by decide +kernel
theorem dX12_number_16 : decode cX12_number 16 = .ok (.aload_n 0, 1) := by decide +kernel
theorem dX12_number_17 : decode cX12_number 17 = .ok (.getfield 202, 3) := by decide +kernel
theorem dX12_number_20 : decode cX12_number 20 = .ok (.lload_n 1, 1) := by decide +kernel
theorem dX12_number_21 : decode cX12_number 21 = .ok (.lload_n 3, 1) := by decide +kernel
theorem dX12_number_22 : decode cX12_number 22 = .ok (.invokestatic 90, 3) := by decide +kernel
theorem dX12_number_25 : decode cX12_number 25 = .ok (.ifCond .eq 7, 3) := by decide +kernel
theorem dX12_number_28 : decode cX12_number 28 = .ok (.iconst 1, 1) := by decide +kernel
theorem dX12_number_29 : decode cX12_number 29 = .ok (.goto 4, 3) := by decide +kernel
theorem dX12_emit_0 : decode cX12_emit 0 = .ok (.aload_n 0, 1) := by decide +kernel
theorem dX12_emit_1 : decode cX12_emit 1 = .ok (.getfield 42, 3) := by decide +kernel
theorem dX12_emit_4 : decode cX12_emit 4 = .ok (.aload_n 0, 1) := by decide +kernel
theorem dX12_emit_5 : decode cX12_emit 5 = .ok (.getfield 229, 3) := by decide +kernel
theorem dX12_emit_8 : decode cX12_emit 8 = .ok (.iload_n 1, 1) := by decide +kernel
theorem dX12_emit_9 : decode cX12_emit 9 = .ok (.iastore, 1) := by decide +kernel
theorem dX12_emit_10 : decode cX12_emit 10 = .ok (.aload_n 0, 1) := by decide +kernel
theorem dX12_emit_11 : decode cX12_emit 11 = .ok (.getfield 45, 3) := by decide +kernel
theorem dX12_emit_14 : decode cX12_emit 14 = .ok (.aload_n 0, 1) := by decide +kernel
theorem dX12_emit_15 : decode cX12_emit 15 = .ok (.getfield 229, 3) := by decide +kernel
theorem dX12_emit_18 : decode cX12_emit 18 = .ok (.iload_n 2, 1) := by decide +kernel
theorem dX12_emit_19 : decode cX12_emit 19 = .ok (.iastore, 1) := by decide +kernel
theorem dX12_emit_20 : decode cX12_emit 20 = .ok (.aload_n 0, 1) := by decide +kernel
theorem dX12_emit_21 : decode cX12_emit 21 = .ok (.dup, 1) := by decide +kernel
theorem dX12_emit_22 : decode cX12_emit 22 = .ok (.getfield 229, 3) := by decide +kernel
theorem dX12_emit_25 : decode cX12_emit 25 = .ok (.iconst 1, 1) := by decide +kernel
theorem dX12_emit_26 : decode cX12_emit 26 = .ok (.iadd, 1) := by decide +kernel
theorem dX12_emit_27 : decode cX12_emit 27 = .ok (.putfield 229, 3) := by decide +kernel
theorem dX12_emit_30 : decode cX12_emit 30 = .ok (.return_, 1) := by decide +kernel
theorem dX12_push_0 : decode cX12_push 0 = .ok (.aload_n 0, 1) := by decide +kernel
theorem dX12_push_1 : decode cX12_push 1 = .ok (.getfield 48, 3) := by decide +kernel
theorem dX12_push_4 : decode cX12_push 4 = .ok (.aload_n 0, 1) := by decide +kernel
theorem dX12_push_5 : decode cX12_push 5 = .ok (.getfield 232, 3) := by decide +kernel
theorem dX12_push_8 : decode cX12_push 8 = .ok (.iload_n 1, 1) := by decide +kernel
theorem dX12_push_9 : decode cX12_push 9 = .ok (.iastore, 1) := by decide +kernel
theorem dX12_push_10 : decode cX12_push 10 = .ok (.aload_n 0, 1) := by decide +kernel
theorem dX12_push_11 : decode cX12_push 11 = .ok (.getfield 51, 3) := by decide +kernel
theorem dX12_push_14 : decode cX12_push 14 = .ok (.aload_n 0, 1) := by decide +kernel
theorem dX12_push_15 : decode cX12_push 15 = .ok (.getfield 232, 3) := by decide +kernel
theorem dX12_push_18 : decode cX12_push 18 = .ok (.iload_n 2, 1) := by decide +kernel
theorem dX12_push_19 : decode cX12_push 19 = .ok (.iastore, 1) := by decide +kernel
theorem dX12_push_20 : decode cX12_push 20 = .ok (.aload_n 0, 1) := by decide +kernel
theorem dX12_push_21 : decode cX12_push 21 = .ok (.dup, 1) := by decide +kernel
theorem dX12_push_22 : decode cX12_push 22 = .ok (.getfield 232, 3) := by decide +kernel
theorem dX12_push_25 : decode cX12_push 25 = .ok (.iconst 1, 1) := by decide +kernel
theorem dX12_push_26 : decode cX12_push 26 = .ok (.iadd, 1) := by decide +kernel
theorem dX12_push_27 : decode cX12_push 27 = .ok (.putfield 232, 3) := by decide +kernel
theorem dX12_push_30 : decode cX12_push 30 = .ok (.return_, 1) := by decide +kernel
theorem dX12_binds_0 : decode cX12_binds 0 = .ok (.iload_n 0, 1) := by decide +kernel
theorem dX12_binds_1 : decode cX12_binds 1 = .ok (.bipush 30, 2) := by decide +kernel
theorem dX12_binds_3 : decode cX12_binds 3 = .ok (.if_icmp .lt 7, 3) := by decide +kernel
theorem dX12_binds_10 : decode cX12_binds 10 = .ok (.iload_n 0, 1) := by decide +kernel
theorem dX12_binds_11 : decode cX12_binds 11 = .ok (.bipush 29, 2) := by decide +kernel
theorem dX12_binds_13 : decode cX12_binds 13 = .ok (.if_icmp .ne 7, 3) := by decide +kernel
theorem dX12_binds_20 : decode cX12_binds 20 = .ok (.iload_n 0, 1) := by decide +kernel
theorem dX12_binds_21 : decode cX12_binds 21 = .ok (.bipush 28, 2) := by decide +kernel
theorem dX12_binds_23 : decode cX12_binds 23 = .ok (.if_icmp .ne 7, 3) := by decide +kernel
theorem dX12_binds_30 : decode cX12_binds 30 = .ok (.iload_n 0, 1) := by decide +kernel
theorem dX12_binds_31 : decode cX12_binds 31 = .ok (.bipush 27, 2) := by decide +kernel
theorem dX12_binds_33 : decode cX12_binds 33 = .ok (.if_icmp .ne 7, 3) := by decide +kernel
theorem dX12_binds_40 : decode cX12_binds 40 = .ok (.iload_n 0, 1) := by decide +kernel
theorem dX12_binds_41 : decode cX12_binds 41 = .ok (.bipush 24, 2) := by decide +kernel
theorem dX12_binds_43 : decode cX12_binds 43 = .ok (.if_icmp .lt 7, 3) := by decide +kernel
theorem dX12_binds_50 : decode cX12_binds 50 = .ok (.iload_n 0, 1) := by decide +kernel
theorem dX12_binds_51 : decode cX12_binds 51 = .ok (.bipush 22, 2) := by decide +kernel
theorem dX12_binds_53 : decode cX12_binds 53 = .ok (.if_icmp .lt 8, 3) := by decide +kernel
theorem dX12_binds_61 : decode cX12_binds 61 = .ok (.iconst 5, 1) := by decide +kernel
theorem dX12_binds_62 : decode cX12_binds 62 = .ok (.ireturn, 1) := by decide +kernel
theorem dX12_binds_56 : decode cX12_binds 56 = .ok (.bipush 6, 2) := by decide +kernel
theorem dX12_binds_58 : decode cX12_binds 58 = .ok (.goto 4, 3) := by decide +kernel
theorem dX12_binds_46 : decode cX12_binds 46 = .ok (.iconst 4, 1) := by decide +kernel
theorem dX12_binds_47 : decode cX12_binds 47 = .ok (.goto 15, 3) := by decide +kernel
theorem dX12_binds_36 : decode cX12_binds 36 = .ok (.iconst 3, 1) := by decide +kernel
theorem dX12_binds_37 : decode cX12_binds 37 = .ok (.goto 25, 3) := by decide +kernel
theorem dX12_binds_26 : decode cX12_binds 26 = .ok (.iconst 2, 1) := by decide +kernel
theorem dX12_binds_27 : decode cX12_binds 27 = .ok (.goto 35, 3) := by decide +kernel
theorem dX12_binds_16 : decode cX12_binds 16 = .ok (.iconst 1, 1) := by decide +kernel
theorem dX12_binds_17 : decode cX12_binds 17 = .ok (.goto 45, 3) := by decide +kernel
theorem dX12_binds_6 : decode cX12_binds 6 = .ok (.iconst 0, 1) := by decide +kernel
theorem dX12_binds_7 : decode cX12_binds 7 = .ok (.goto 55, 3) := by decide +kernel
theorem dX12_settle_0 : decode cX12_settle 0 = .ok (.aload_n 0, 1) := by decide +kernel
theorem dX12_settle_1 : decode cX12_settle 1 = .ok (.getfield 232, 3) := by decide +kernel
theorem dX12_settle_4 : decode cX12_settle 4 = .ok (.ifCond .le 97, 3) := by decide +kernel
theorem dX12_settle_101 : decode cX12_settle 101 = .ok (.return_, 1) := by decide +kernel
theorem dX12_settle_7 : decode cX12_settle 7 = .ok (.aload_n 0, 1) := by decide +kernel
theorem dX12_settle_8 : decode cX12_settle 8 = .ok (.getfield 48, 3) := by decide +kernel
theorem dX12_settle_11 : decode cX12_settle 11 = .ok (.aload_n 0, 1) := by decide +kernel
theorem dX12_settle_12 : decode cX12_settle 12 = .ok (.getfield 232, 3) := by decide +kernel
theorem dX12_settle_15 : decode cX12_settle 15 = .ok (.iconst 1, 1) := by decide +kernel
theorem dX12_settle_16 : decode cX12_settle 16 = .ok (.isub, 1) := by decide +kernel
theorem dX12_settle_17 : decode cX12_settle 17 = .ok (.iaload, 1) := by decide +kernel
theorem dX12_settle_18 : decode cX12_settle 18 = .ok (.invokestatic 235, 3) := by decide +kernel
theorem dX12_settle_21 : decode cX12_settle 21 = .ok (.iload_n 1, 1) := by decide +kernel
theorem dX12_settle_22 : decode cX12_settle 22 = .ok (.if_icmp .lt 79, 3) := by decide +kernel
theorem dX12_settle_25 : decode cX12_settle 25 = .ok (.aload_n 0, 1) := by decide +kernel
theorem dX12_settle_26 : decode cX12_settle 26 = .ok (.dup, 1) := by decide +kernel
theorem dX12_settle_27 : decode cX12_settle 27 = .ok (.getfield 232, 3) := by decide +kernel
theorem dX12_settle_30 : decode cX12_settle 30 = .ok (.iconst 1, 1) := by decide +kernel
theorem dX12_settle_31 : decode cX12_settle 31 = .ok (.isub, 1) := by decide +kernel
theorem dX12_settle_32 : decode cX12_settle 32 = .ok (.putfield 232, 3) := by decide +kernel
theorem dX12_settle_35 : decode cX12_settle 35 = .ok (.aload_n 0, 1) := by decide +kernel
theorem dX12_settle_36 : decode cX12_settle 36 = .ok (.getfield 48, 3) := by decide +kernel
theorem dX12_settle_39 : decode cX12_settle 39 = .ok (.aload_n 0, 1) := by decide +kernel
theorem dX12_settle_40 : decode cX12_settle 40 = .ok (.getfield 232, 3) := by decide +kernel
theorem dX12_settle_43 : decode cX12_settle 43 = .ok (.iaload, 1) := by decide +kernel
theorem dX12_settle_44 : decode cX12_settle 44 = .ok (.bipush 28, 2) := by decide +kernel
theorem dX12_settle_46 : decode cX12_settle 46 = .ok (.if_icmp .eq 17, 3) := by decide +kernel
theorem dX12_settle_63 : decode cX12_settle 63 = .ok (.aload_n 0, 1) := by decide +kernel
theorem dX12_settle_64 : decode cX12_settle 64 = .ok (.getfield 45, 3) := by decide +kernel
theorem dX12_settle_67 : decode cX12_settle 67 = .ok (.aload_n 0, 1) := by decide +kernel
theorem dX12_settle_68 : decode cX12_settle 68 = .ok (.getfield 51, 3) := by decide +kernel
theorem dX12_settle_71 : decode cX12_settle 71 = .ok (.aload_n 0, 1) := by decide +kernel
theorem dX12_settle_72 : decode cX12_settle 72 = .ok (.getfield 232, 3) := by decide +kernel
theorem dX12_settle_75 : decode cX12_settle 75 = .ok (.iaload, 1) := by decide +kernel
theorem dX12_settle_76 : decode cX12_settle 76 = .ok (.aload_n 0, 1) := by decide +kernel
theorem dX12_settle_77 : decode cX12_settle 77 = .ok (.getfield 229, 3) := by decide +kernel
theorem dX12_settle_80 : decode cX12_settle 80 = .ok (.iastore, 1) := by decide +kernel
theorem dX12_settle_81 : decode cX12_settle 81 = .ok (.goto (-81), 3) := by decide +kernel
theorem dX12_settle_49 : decode cX12_settle 49 = .ok (.aload_n 0, 1) := by decide +kernel
theorem dX12_settle_50 : decode cX12_settle 50 = .ok (.getfield 48, 3) := by decide +kernel
theorem dX12_settle_53 : decode cX12_settle 53 = .ok (.aload_n 0, 1) := by decide +kernel
theorem dX12_settle_54 : decode cX12_settle 54 = .ok (.getfield 232, 3) := by decide +kernel
theorem dX12_settle_57 : decode cX12_settle 57 = .ok (.iaload, 1) := by decide +kernel
theorem dX12_settle_58 : decode cX12_settle 58 = .ok (.bipush 29, 2) := by decide +kernel
theorem dX12_settle_60 : decode cX12_settle 60 = .ok (.if_icmp .ne 24, 3) := by decide +kernel
theorem dX12_settle_84 : decode cX12_settle 84 = .ok (.aload_n 0, 1) := by decide +kernel
theorem dX12_settle_85 : decode cX12_settle 85 = .ok (.aload_n 0, 1) := by decide +kernel
theorem dX12_settle_86 : decode cX12_settle 86 = .ok (.getfield 48, 3) := by decide +kernel
theorem dX12_settle_89 : decode cX12_settle 89 = .ok (.aload_n 0, 1) := by decide +kernel
theorem dX12_settle_90 : decode cX12_settle 90 = .ok (.getfield 232, 3) := by decide +kernel
theorem dX12_settle_93 : decode cX12_settle 93 = .ok (.iaload, 1) := by decide +kernel
theorem dX12_settle_94 : decode cX12_settle 94 = .ok (.iconst 0, 1) := by decide +kernel
theorem dX12_settle_95 : decode cX12_settle 95 = .ok (.invokevirtual 238, 3) := by decide +kernel
theorem dX12_settle_98 : decode cX12_settle 98 = .ok (.goto (-98), 3) := by decide +kernel
theorem dX12_inner_0 : decode cX12_inner 0 = .ok (.iconst (-1), 1) := by decide +kernel
theorem dX12_inner_1 : decode cX12_inner 1 = .ok (.istore_n 1, 1) := by decide +kernel
theorem dX12_inner_2 : decode cX12_inner 2 = .ok (.iconst 0, 1) := by decide +kernel
theorem dX12_inner_3 : decode cX12_inner 3 = .ok (.istore_n 2, 1) := by decide +kernel
theorem dX12_inner_4 : decode cX12_inner 4 = .ok (.iload_n 2, 1) := by decide +kernel
theorem dX12_inner_5 : decode cX12_inner 5 = .ok (.aload_n 0, 1) := by decide +kernel
theorem dX12_inner_6 : decode cX12_inner 6 = .ok (.getfield 232, 3) := by decide +kernel
theorem dX12_inner_9 : decode cX12_inner 9 = .ok (.if_icmp .ge 31, 3) := by decide +kernel
theorem dX12_inner_40 : decode cX12_inner 40 = .ok (.iload_n 1, 1) := by decide +kernel
theorem dX12_inner_41 : decode cX12_inner 41 = .ok (.ireturn, 1) := by decide +kernel
theorem dX12_inner_12 : decode cX12_inner 12 = .ok (.aload_n 0, 1) := by decide +kernel
theorem dX12_inner_13 : decode cX12_inner 13 = .ok (.getfield 48, 3) := by decide +kernel
theorem dX12_inner_16 : decode cX12_inner 16 = .ok (.iload_n 2, 1) := by decide +kernel
theorem dX12_inner_17 : decode cX12_inner 17 = .ok (.iaload, 1) := by decide +kernel
theorem dX12_inner_18 : decode cX12_inner 18 = .ok (.bipush 30, 2) := by decide +kernel
theorem dX12_inner_20 : decode cX12_inner 20 = .ok (.if_icmp .lt 12, 3) := by decide +kernel
theorem dX12_inner_32 : decode cX12_inner 32 = .ok (.iload_n 1, 1) := by decide +kernel
theorem dX12_inner_33 : decode cX12_inner 33 = .ok (.istore_n 1, 1) := by decide +kernel
theorem dX12_inner_34 : decode cX12_inner 34 = .ok (.iinc 2 1, 3) := by decide +kernel
theorem dX12_inner_37 : decode cX12_inner 37 = .ok (.goto (-33), 3) := by decide +kernel
theorem dX12_inner_23 : decode cX12_inner 23 = .ok (.aload_n 0, 1) := by decide +kernel
theorem dX12_inner_24 : decode cX12_inner 24 = .ok (.getfield 48, 3) := by decide +kernel
theorem dX12_inner_27 : decode cX12_inner 27 = .ok (.iload_n 2, 1) := by decide +kernel
theorem dX12_inner_28 : decode cX12_inner 28 = .ok (.iaload, 1) := by decide +kernel
theorem dX12_inner_29 : decode cX12_inner 29 = .ok (.goto 4, 3) := by decide +kernel
theorem dX12_isCompared_0 : decode cX12_isCompared 0 = .ok (.aload_n 0, 1) := by decide +kernel
theorem dX12_isCompared_1 : decode cX12_isCompared 1 = .ok (.getfield 232, 3) := by decide +kernel
theorem dX12_isCompared_4 : decode cX12_isCompared 4 = .ok (.iconst 1, 1) := by decide +kernel
theorem dX12_isCompared_5 : decode cX12_isCompared 5 = .ok (.isub, 1) := by decide +kernel
theorem dX12_isCompared_6 : decode cX12_isCompared 6 = .ok (.istore_n 1, 1) := by decide +kernel
theorem dX12_isCompared_7 : decode cX12_isCompared 7 = .ok (.iload_n 1, 1) := by decide +kernel
theorem dX12_isCompared_8 : decode cX12_isCompared 8 = .ok (.ifCond .lt 28, 3) := by decide +kernel
theorem dX12_isCompared_36 : decode cX12_isCompared 36 = .ok (.iload_n 1, 1) := by decide +kernel
theorem dX12_isCompared_37 : decode cX12_isCompared 37 = .ok (.ifCond .lt 26, 3) := by decide +kernel
theorem dX12_isCompared_64 : decode cX12_isCompared 64 = .ok (.ireturn, 1) := by decide +kernel
theorem dX12_isCompared_63 : decode cX12_isCompared 63 = .ok (.iconst 0, 1) := by decide +kernel
theorem dX12_isCompared_40 : decode cX12_isCompared 40 = .ok (.aload_n 0, 1) := by decide +kernel
theorem dX12_isCompared_41 : decode cX12_isCompared 41 = .ok (.getfield 48, 3) := by decide +kernel
theorem dX12_isCompared_44 : decode cX12_isCompared 44 = .ok (.iload_n 1, 1) := by decide +kernel
theorem dX12_isCompared_45 : decode cX12_isCompared 45 = .ok (.iaload, 1) := by decide +kernel
theorem dX12_isCompared_46 : decode cX12_isCompared 46 = .ok (.i2l, 1) := by decide +kernel
theorem dX12_isCompared_47 : decode cX12_isCompared 47 = .ok (.ldc2_w 246, 3) := by decide +kernel
theorem dX12_isCompared_50 : decode cX12_isCompared 50 = .ok (.ldc2_w 248, 3) := by decide +kernel
theorem dX12_isCompared_53 : decode cX12_isCompared 53 = .ok (.invokestatic 90, 3) := by decide +kernel
theorem dX12_isCompared_56 : decode cX12_isCompared 56 = .ok (.ifCond .eq 7, 3) := by decide +kernel
theorem dX12_isCompared_59 : decode cX12_isCompared 59 = .ok (.iconst 1, 1) := by decide +kernel
theorem dX12_isCompared_60 : decode cX12_isCompared 60 = .ok (.goto 4, 3) := by decide +kernel
theorem dX12_isCompared_11 : decode cX12_isCompared 11 = .ok (.aload_n 0, 1) := by decide +kernel
theorem dX12_isCompared_12 : decode cX12_isCompared 12 = .ok (.getfield 48, 3) := by decide +kernel
theorem dX12_isCompared_15 : decode cX12_isCompared 15 = .ok (.iload_n 1, 1) := by decide +kernel
theorem dX12_isCompared_16 : decode cX12_isCompared 16 = .ok (.iaload, 1) := by decide +kernel
theorem dX12_isCompared_17 : decode cX12_isCompared 17 = .ok (.i2l, 1) := by decide +kernel
theorem dX12_isCompared_18 : decode cX12_isCompared 18 = .ok (.ldc2_w 242, 3) := by decide +kernel
theorem dX12_isCompared_21 : decode cX12_isCompared 21 = .ok (.ldc2_w 244, 3) := by decide +kernel
theorem dX12_isCompared_24 : decode cX12_isCompared 24 = .ok (.invokestatic 90, 3) := by decide +kernel
theorem dX12_isCompared_27 : decode cX12_isCompared 27 = .ok (.ifCond .eq 9, 3) := by decide +kernel
theorem dX12_isCompared_30 : decode cX12_isCompared 30 = .ok (.iinc 1 (-1), 3) := by decide +kernel
theorem dX12_isCompared_33 : decode cX12_isCompared 33 = .ok (.goto (-26), 3) := by decide +kernel
theorem dX12_partAt_0 : decode cX12_partAt 0 = .ok (.aload_n 0, 1) := by decide +kernel
theorem dX12_partAt_1 : decode cX12_partAt 1 = .ok (.ldc2_w 250, 3) := by decide +kernel
theorem dX12_partAt_4 : decode cX12_partAt 4 = .ok (.invokevirtual 252, 3) := by decide +kernel
theorem dX12_partAt_7 : decode cX12_partAt 7 = .ok (.ifCond .ne 33, 3) := by decide +kernel
theorem dX12_partAt_40 : decode cX12_partAt 40 = .ok (.aload_n 0, 1) := by decide +kernel
theorem dX12_partAt_41 : decode cX12_partAt 41 = .ok (.ldc2_w 250, 3) := by decide +kernel
theorem dX12_partAt_44 : decode cX12_partAt 44 = .ok (.invokevirtual 252, 3) := by decide +kernel
theorem dX12_partAt_47 : decode cX12_partAt 47 = .ok (.ifCond .eq 7, 3) := by decide +kernel
theorem dX12_partAt_54 : decode cX12_partAt 54 = .ok (.aload_n 0, 1) := by decide +kernel
theorem dX12_partAt_55 : decode cX12_partAt 55 = .ok (.ldc2_w 256, 3) := by decide +kernel
theorem dX12_partAt_58 : decode cX12_partAt 58 = .ok (.invokevirtual 252, 3) := by decide +kernel
theorem dX12_partAt_61 : decode cX12_partAt 61 = .ok (.ifCond .eq 7, 3) := by decide +kernel
theorem dX12_partAt_68 : decode cX12_partAt 68 = .ok (.aload_n 0, 1) := by decide +kernel
theorem dX12_partAt_69 : decode cX12_partAt 69 = .ok (.ldc2_w 258, 3) := by decide +kernel
theorem dX12_partAt_72 : decode cX12_partAt 72 = .ok (.invokevirtual 252, 3) := by decide +kernel
theorem dX12_partAt_75 : decode cX12_partAt 75 = .ok (.ifCond .eq 7, 3) := by decide +kernel
theorem dX12_partAt_82 : decode cX12_partAt 82 = .ok (.iconst 4, 1) := by decide +kernel
theorem dX12_partAt_83 : decode cX12_partAt 83 = .ok (.ireturn, 1) := by decide +kernel
theorem dX12_partAt_78 : decode cX12_partAt 78 = .ok (.iconst 3, 1) := by decide +kernel
theorem dX12_partAt_79 : decode cX12_partAt 79 = .ok (.goto 4, 3) := by decide +kernel
theorem dX12_partAt_64 : decode cX12_partAt 64 = .ok (.iconst 2, 1) := by decide +kernel
theorem dX12_partAt_65 : decode cX12_partAt 65 = .ok (.goto 18, 3) := by decide +kernel
theorem dX12_partAt_50 : decode cX12_partAt 50 = .ok (.iconst 1, 1) := by decide +kernel
theorem dX12_partAt_51 : decode cX12_partAt 51 = .ok (.goto 32, 3) := by decide +kernel
theorem dX12_partAt_10 : decode cX12_partAt 10 = .ok (.aload_n 0, 1) := by decide +kernel
theorem dX12_partAt_11 : decode cX12_partAt 11 = .ok (.ldc2_w 256, 3) := by decide +kernel
theorem dX12_partAt_14 : decode cX12_partAt 14 = .ok (.invokevirtual 252, 3) := by decide +kernel
theorem dX12_partAt_17 : decode cX12_partAt 17 = .ok (.ifCond .ne 23, 3) := by decide +kernel
theorem dX12_partAt_20 : decode cX12_partAt 20 = .ok (.aload_n 0, 1) := by decide +kernel
theorem dX12_partAt_21 : decode cX12_partAt 21 = .ok (.ldc2_w 258, 3) := by decide +kernel
theorem dX12_partAt_24 : decode cX12_partAt 24 = .ok (.invokevirtual 252, 3) := by decide +kernel
theorem dX12_partAt_27 : decode cX12_partAt 27 = .ok (.ifCond .ne 13, 3) := by decide +kernel
theorem dX12_partAt_30 : decode cX12_partAt 30 = .ok (.aload_n 0, 1) := by decide +kernel
theorem dX12_partAt_31 : decode cX12_partAt 31 = .ok (.ldc2_w 260, 3) := by decide +kernel
theorem dX12_partAt_34 : decode cX12_partAt 34 = .ok (.invokevirtual 252, 3) := by decide +kernel
theorem dX12_partAt_37 : decode cX12_partAt 37 = .ok (.ifCond .eq 47, 3) := by decide +kernel
theorem dX12_partAt_84 : decode cX12_partAt 84 = .ok (.aload_n 0, 1) := by decide +kernel
theorem dX12_partAt_85 : decode cX12_partAt 85 = .ok (.ldc2_w 262, 3) := by decide +kernel
theorem dX12_partAt_88 : decode cX12_partAt 88 = .ok (.invokevirtual 252, 3) := by decide +kernel
theorem dX12_partAt_91 : decode cX12_partAt 91 = .ok (.ifCond .ne 33, 3) := by decide +kernel
theorem dX12_partAt_124 : decode cX12_partAt 124 = .ok (.aload_n 0, 1) := by decide +kernel
theorem dX12_partAt_125 : decode cX12_partAt 125 = .ok (.ldc2_w 262, 3) := by decide +kernel
theorem dX12_partAt_128 : decode cX12_partAt 128 = .ok (.invokevirtual 252, 3) := by decide +kernel
theorem dX12_partAt_131 : decode cX12_partAt 131 = .ok (.ifCond .eq 7, 3) := by decide +kernel
theorem dX12_partAt_138 : decode cX12_partAt 138 = .ok (.aload_n 0, 1) := by decide +kernel
theorem dX12_partAt_139 : decode cX12_partAt 139 = .ok (.ldc2_w 264, 3) := by decide +kernel
theorem dX12_partAt_142 : decode cX12_partAt 142 = .ok (.invokevirtual 252, 3) := by decide +kernel
theorem dX12_partAt_145 : decode cX12_partAt 145 = .ok (.ifCond .eq 8, 3) := by decide +kernel
theorem dX12_partAt_153 : decode cX12_partAt 153 = .ok (.aload_n 0, 1) := by decide +kernel
theorem dX12_partAt_154 : decode cX12_partAt 154 = .ok (.ldc2_w 266, 3) := by decide +kernel
theorem dX12_partAt_157 : decode cX12_partAt 157 = .ok (.invokevirtual 252, 3) := by decide +kernel
theorem dX12_partAt_160 : decode cX12_partAt 160 = .ok (.ifCond .eq 8, 3) := by decide +kernel
theorem dX12_partAt_168 : decode cX12_partAt 168 = .ok (.bipush 8, 2) := by decide +kernel
theorem dX12_partAt_170 : decode cX12_partAt 170 = .ok (.ireturn, 1) := by decide +kernel
theorem dX12_partAt_163 : decode cX12_partAt 163 = .ok (.bipush 7, 2) := by decide +kernel
theorem dX12_partAt_165 : decode cX12_partAt 165 = .ok (.goto 5, 3) := by decide +kernel
theorem dX12_partAt_148 : decode cX12_partAt 148 = .ok (.bipush 6, 2) := by decide +kernel
theorem dX12_partAt_150 : decode cX12_partAt 150 = .ok (.goto 20, 3) := by decide +kernel
theorem dX12_partAt_134 : decode cX12_partAt 134 = .ok (.iconst 5, 1) := by decide +kernel
theorem dX12_partAt_135 : decode cX12_partAt 135 = .ok (.goto 35, 3) := by decide +kernel
theorem dX12_partAt_94 : decode cX12_partAt 94 = .ok (.aload_n 0, 1) := by decide +kernel
theorem dX12_partAt_95 : decode cX12_partAt 95 = .ok (.ldc2_w 264, 3) := by decide +kernel
theorem dX12_partAt_98 : decode cX12_partAt 98 = .ok (.invokevirtual 252, 3) := by decide +kernel
theorem dX12_partAt_101 : decode cX12_partAt 101 = .ok (.ifCond .ne 23, 3) := by decide +kernel
theorem dX12_partAt_104 : decode cX12_partAt 104 = .ok (.aload_n 0, 1) := by decide +kernel
theorem dX12_partAt_105 : decode cX12_partAt 105 = .ok (.ldc2_w 266, 3) := by decide +kernel
theorem dX12_partAt_108 : decode cX12_partAt 108 = .ok (.invokevirtual 252, 3) := by decide +kernel
theorem dX12_partAt_111 : decode cX12_partAt 111 = .ok (.ifCond .ne 13, 3) := by decide +kernel
theorem dX12_partAt_114 : decode cX12_partAt 114 = .ok (.aload_n 0, 1) := by decide +kernel
theorem dX12_partAt_115 : decode cX12_partAt 115 = .ok (.ldc2_w 268, 3) := by decide +kernel
theorem dX12_partAt_118 : decode cX12_partAt 118 = .ok (.invokevirtual 252, 3) := by decide +kernel
theorem dX12_partAt_121 : decode cX12_partAt 121 = .ok (.ifCond .eq 50, 3) := by decide +kernel
theorem dX12_partAt_171 : decode cX12_partAt 171 = .ok (.aload_n 0, 1) := by decide +kernel
theorem dX12_partAt_172 : decode cX12_partAt 172 = .ok (.ldc2_w 270, 3) := by decide +kernel
theorem dX12_partAt_175 : decode cX12_partAt 175 = .ok (.invokevirtual 252, 3) := by decide +kernel
theorem dX12_partAt_178 : decode cX12_partAt 178 = .ok (.ifCond .eq 8, 3) := by decide +kernel
theorem dX12_partAt_186 : decode cX12_partAt 186 = .ok (.aload_n 0, 1) := by decide +kernel
theorem dX12_partAt_187 : decode cX12_partAt 187 = .ok (.ldc2_w 272, 3) := by decide +kernel
theorem dX12_partAt_190 : decode cX12_partAt 190 = .ok (.invokevirtual 252, 3) := by decide +kernel
theorem dX12_partAt_193 : decode cX12_partAt 193 = .ok (.ifCond .eq 8, 3) := by decide +kernel
theorem dX12_partAt_201 : decode cX12_partAt 201 = .ok (.aload_n 0, 1) := by decide +kernel
theorem dX12_partAt_202 : decode cX12_partAt 202 = .ok (.ldc2_w 274, 3) := by decide +kernel
theorem dX12_partAt_205 : decode cX12_partAt 205 = .ok (.invokevirtual 252, 3) := by decide +kernel
theorem dX12_partAt_208 : decode cX12_partAt 208 = .ok (.ifCond .eq 8, 3) := by decide +kernel
theorem dX12_partAt_216 : decode cX12_partAt 216 = .ok (.iconst (-1), 1) := by decide +kernel
theorem dX12_partAt_217 : decode cX12_partAt 217 = .ok (.ireturn, 1) := by decide +kernel
theorem dX12_partAt_211 : decode cX12_partAt 211 = .ok (.bipush 11, 2) := by decide +kernel
theorem dX12_partAt_213 : decode cX12_partAt 213 = .ok (.goto 4, 3) := by decide +kernel
theorem dX12_partAt_196 : decode cX12_partAt 196 = .ok (.bipush 10, 2) := by decide +kernel
theorem dX12_partAt_198 : decode cX12_partAt 198 = .ok (.goto 19, 3) := by decide +kernel
theorem dX12_partAt_181 : decode cX12_partAt 181 = .ok (.bipush 9, 2) := by decide +kernel
theorem dX12_partAt_183 : decode cX12_partAt 183 = .ok (.goto 34, 3) := by decide +kernel
theorem dX12_plainAt_0 : decode cX12_plainAt 0 = .ok (.aload_n 0, 1) := by decide +kernel
theorem dX12_plainAt_1 : decode cX12_plainAt 1 = .ok (.ldc2_w 276, 3) := by decide +kernel
theorem dX12_plainAt_4 : decode cX12_plainAt 4 = .ok (.invokevirtual 252, 3) := by decide +kernel
theorem dX12_plainAt_7 : decode cX12_plainAt 7 = .ok (.ifCond .eq 8, 3) := by decide +kernel
theorem dX12_plainAt_15 : decode cX12_plainAt 15 = .ok (.aload_n 0, 1) := by decide +kernel
theorem dX12_plainAt_16 : decode cX12_plainAt 16 = .ok (.ldc2_w 278, 3) := by decide +kernel
theorem dX12_plainAt_19 : decode cX12_plainAt 19 = .ok (.invokevirtual 252, 3) := by decide +kernel
theorem dX12_plainAt_22 : decode cX12_plainAt 22 = .ok (.ifCond .eq 8, 3) := by decide +kernel
theorem dX12_plainAt_30 : decode cX12_plainAt 30 = .ok (.aload_n 0, 1) := by decide +kernel
theorem dX12_plainAt_31 : decode cX12_plainAt 31 = .ok (.ldc2_w 280, 3) := by decide +kernel
theorem dX12_plainAt_34 : decode cX12_plainAt 34 = .ok (.invokevirtual 252, 3) := by decide +kernel
theorem dX12_plainAt_37 : decode cX12_plainAt 37 = .ok (.ifCond .eq 8, 3) := by decide +kernel
theorem dX12_plainAt_45 : decode cX12_plainAt 45 = .ok (.aload_n 0, 1) := by decide +kernel
theorem dX12_plainAt_46 : decode cX12_plainAt 46 = .ok (.ldc2_w 282, 3) := by decide +kernel
theorem dX12_plainAt_49 : decode cX12_plainAt 49 = .ok (.invokevirtual 252, 3) := by decide +kernel
theorem dX12_plainAt_52 : decode cX12_plainAt 52 = .ok (.ifCond .eq 8, 3) := by decide +kernel
theorem dX12_plainAt_60 : decode cX12_plainAt 60 = .ok (.iconst (-1), 1) := by decide +kernel
theorem dX12_plainAt_61 : decode cX12_plainAt 61 = .ok (.ireturn, 1) := by decide +kernel
theorem dX12_plainAt_55 : decode cX12_plainAt 55 = .ok (.bipush 15, 2) := by decide +kernel
theorem dX12_plainAt_57 : decode cX12_plainAt 57 = .ok (.goto 4, 3) := by decide +kernel
theorem dX12_plainAt_40 : decode cX12_plainAt 40 = .ok (.bipush 14, 2) := by decide +kernel
theorem dX12_plainAt_42 : decode cX12_plainAt 42 = .ok (.goto 19, 3) := by decide +kernel
theorem dX12_plainAt_25 : decode cX12_plainAt 25 = .ok (.bipush 13, 2) := by decide +kernel
theorem dX12_plainAt_27 : decode cX12_plainAt 27 = .ok (.goto 34, 3) := by decide +kernel
theorem dX12_plainAt_10 : decode cX12_plainAt 10 = .ok (.bipush 12, 2) := by decide +kernel
theorem dX12_plainAt_12 : decode cX12_plainAt 12 = .ok (.goto 49, 3) := by decide +kernel
theorem dX12_headAt_0 : decode cX12_headAt 0 = .ok (.aload_n 0, 1) := by decide +kernel
theorem dX12_headAt_1 : decode cX12_headAt 1 = .ok (.ldc2_w 339, 3) := by decide +kernel
theorem dX12_headAt_4 : decode cX12_headAt 4 = .ok (.invokevirtual 252, 3) := by decide +kernel
theorem dX12_headAt_7 : decode cX12_headAt 7 = .ok (.ifCond .ne 33, 3) := by decide +kernel
theorem dX12_headAt_40 : decode cX12_headAt 40 = .ok (.aload_n 0, 1) := by decide +kernel
theorem dX12_headAt_41 : decode cX12_headAt 41 = .ok (.ldc2_w 339, 3) := by decide +kernel
theorem dX12_headAt_44 : decode cX12_headAt 44 = .ok (.invokevirtual 252, 3) := by decide +kernel
theorem dX12_headAt_47 : decode cX12_headAt 47 = .ok (.ifCond .eq 7, 3) := by decide +kernel
theorem dX12_headAt_54 : decode cX12_headAt 54 = .ok (.aload_n 0, 1) := by decide +kernel
theorem dX12_headAt_55 : decode cX12_headAt 55 = .ok (.ldc2_w 341, 3) := by decide +kernel
theorem dX12_headAt_58 : decode cX12_headAt 58 = .ok (.invokevirtual 252, 3) := by decide +kernel
theorem dX12_headAt_61 : decode cX12_headAt 61 = .ok (.ifCond .eq 7, 3) := by decide +kernel
theorem dX12_headAt_68 : decode cX12_headAt 68 = .ok (.aload_n 0, 1) := by decide +kernel
theorem dX12_headAt_69 : decode cX12_headAt 69 = .ok (.ldc2_w 343, 3) := by decide +kernel
theorem dX12_headAt_72 : decode cX12_headAt 72 = .ok (.invokevirtual 252, 3) := by decide +kernel
theorem dX12_headAt_75 : decode cX12_headAt 75 = .ok (.ifCond .eq 7, 3) := by decide +kernel
theorem dX12_headAt_82 : decode cX12_headAt 82 = .ok (.iconst 3, 1) := by decide +kernel
theorem dX12_headAt_83 : decode cX12_headAt 83 = .ok (.ireturn, 1) := by decide +kernel
theorem dX12_headAt_78 : decode cX12_headAt 78 = .ok (.iconst 2, 1) := by decide +kernel
theorem dX12_headAt_79 : decode cX12_headAt 79 = .ok (.goto 4, 3) := by decide +kernel
theorem dX12_headAt_64 : decode cX12_headAt 64 = .ok (.iconst 1, 1) := by decide +kernel
theorem dX12_headAt_65 : decode cX12_headAt 65 = .ok (.goto 18, 3) := by decide +kernel
theorem dX12_headAt_50 : decode cX12_headAt 50 = .ok (.iconst 0, 1) := by decide +kernel
theorem dX12_headAt_51 : decode cX12_headAt 51 = .ok (.goto 32, 3) := by decide +kernel
theorem dX12_headAt_10 : decode cX12_headAt 10 = .ok (.aload_n 0, 1) := by decide +kernel
theorem dX12_headAt_11 : decode cX12_headAt 11 = .ok (.ldc2_w 341, 3) := by decide +kernel
theorem dX12_headAt_14 : decode cX12_headAt 14 = .ok (.invokevirtual 252, 3) := by decide +kernel
theorem dX12_headAt_17 : decode cX12_headAt 17 = .ok (.ifCond .ne 23, 3) := by decide +kernel
theorem dX12_headAt_20 : decode cX12_headAt 20 = .ok (.aload_n 0, 1) := by decide +kernel
theorem dX12_headAt_21 : decode cX12_headAt 21 = .ok (.ldc2_w 343, 3) := by decide +kernel
theorem dX12_headAt_24 : decode cX12_headAt 24 = .ok (.invokevirtual 252, 3) := by decide +kernel
theorem dX12_headAt_27 : decode cX12_headAt 27 = .ok (.ifCond .ne 13, 3) := by decide +kernel
theorem dX12_headAt_30 : decode cX12_headAt 30 = .ok (.aload_n 0, 1) := by decide +kernel
theorem dX12_headAt_31 : decode cX12_headAt 31 = .ok (.ldc2_w 345, 3) := by decide +kernel
theorem dX12_headAt_34 : decode cX12_headAt 34 = .ok (.invokevirtual 252, 3) := by decide +kernel
theorem dX12_headAt_37 : decode cX12_headAt 37 = .ok (.ifCond .eq 47, 3) := by decide +kernel
theorem dX12_headAt_84 : decode cX12_headAt 84 = .ok (.aload_n 0, 1) := by decide +kernel
theorem dX12_headAt_85 : decode cX12_headAt 85 = .ok (.ldc2_w 347, 3) := by decide +kernel
theorem dX12_headAt_88 : decode cX12_headAt 88 = .ok (.invokevirtual 252, 3) := by decide +kernel
theorem dX12_headAt_91 : decode cX12_headAt 91 = .ok (.ifCond .eq 7, 3) := by decide +kernel
theorem dX12_headAt_98 : decode cX12_headAt 98 = .ok (.aload_n 0, 1) := by decide +kernel
theorem dX12_headAt_99 : decode cX12_headAt 99 = .ok (.ldc2_w 349, 3) := by decide +kernel
theorem dX12_headAt_102 : decode cX12_headAt 102 = .ok (.invokevirtual 252, 3) := by decide +kernel
theorem dX12_headAt_105 : decode cX12_headAt 105 = .ok (.ifCond .eq 7, 3) := by decide +kernel
theorem dX12_headAt_112 : decode cX12_headAt 112 = .ok (.aload_n 0, 1) := by decide +kernel
theorem dX12_headAt_113 : decode cX12_headAt 113 = .ok (.ldc2_w 351, 3) := by decide +kernel
theorem dX12_headAt_116 : decode cX12_headAt 116 = .ok (.invokevirtual 252, 3) := by decide +kernel
theorem dX12_headAt_119 : decode cX12_headAt 119 = .ok (.ifCond .eq 8, 3) := by decide +kernel
theorem dX12_headAt_127 : decode cX12_headAt 127 = .ok (.iconst (-1), 1) := by decide +kernel
theorem dX12_headAt_128 : decode cX12_headAt 128 = .ok (.ireturn, 1) := by decide +kernel
theorem dX12_headAt_122 : decode cX12_headAt 122 = .ok (.bipush 6, 2) := by decide +kernel
theorem dX12_headAt_124 : decode cX12_headAt 124 = .ok (.goto 4, 3) := by decide +kernel
theorem dX12_headAt_108 : decode cX12_headAt 108 = .ok (.iconst 5, 1) := by decide +kernel
theorem dX12_headAt_109 : decode cX12_headAt 109 = .ok (.goto 19, 3) := by decide +kernel
theorem dX12_headAt_94 : decode cX12_headAt 94 = .ok (.iconst 4, 1) := by decide +kernel
theorem dX12_headAt_95 : decode cX12_headAt 95 = .ok (.goto 33, 3) := by decide +kernel
theorem dX12_leaf_0 : decode cX12_leaf 0 = .ok (.aload_n 0, 1) := by decide +kernel
theorem dX12_leaf_1 : decode cX12_leaf 1 = .ok (.iload_n 1, 1) := by decide +kernel
theorem dX12_leaf_2 : decode cX12_leaf 2 = .ok (.ifCond .eq 16, 3) := by decide +kernel
theorem dX12_leaf_18 : decode cX12_leaf 18 = .ok (.iconst 0, 1) := by decide +kernel
theorem dX12_leaf_19 : decode cX12_leaf 19 = .ok (.invokevirtual 225, 3) := by decide +kernel
theorem dX12_leaf_22 : decode cX12_leaf 22 = .ok (.aload_n 0, 1) := by decide +kernel
theorem dX12_leaf_23 : decode cX12_leaf 23 = .ok (.getfield 193, 3) := by decide +kernel
theorem dX12_leaf_26 : decode cX12_leaf 26 = .ok (.ifCond .ne 19, 3) := by decide +kernel
theorem dX12_leaf_45 : decode cX12_leaf 45 = .ok (.return_, 1) := by decide +kernel
theorem dX12_leaf_29 : decode cX12_leaf 29 = .ok (.aload_n 0, 1) := by decide +kernel
theorem dX12_leaf_30 : decode cX12_leaf 30 = .ok (.iload_n 2, 1) := by decide +kernel
theorem dX12_leaf_31 : decode cX12_leaf 31 = .ok (.iload_n 3, 1) := by decide +kernel
theorem dX12_leaf_32 : decode cX12_leaf 32 = .ok (.invokevirtual 238, 3) := by decide +kernel
theorem dX12_leaf_35 : decode cX12_leaf 35 = .ok (.aload_n 0, 1) := by decide +kernel
theorem dX12_leaf_36 : decode cX12_leaf 36 = .ok (.dup, 1) := by decide +kernel
theorem dX12_leaf_37 : decode cX12_leaf 37 = .ok (.getfield 290, 3) := by decide +kernel
theorem dX12_leaf_40 : decode cX12_leaf 40 = .ok (.iconst 1, 1) := by decide +kernel
theorem dX12_leaf_41 : decode cX12_leaf 41 = .ok (.iadd, 1) := by decide +kernel
theorem dX12_leaf_42 : decode cX12_leaf 42 = .ok (.putfield 290, 3) := by decide +kernel
theorem dX12_leaf_5 : decode cX12_leaf 5 = .ok (.aload_n 0, 1) := by decide +kernel
theorem dX12_leaf_6 : decode cX12_leaf 6 = .ok (.getfield 290, 3) := by decide +kernel
theorem dX12_leaf_9 : decode cX12_leaf 9 = .ok (.bipush 50, 2) := by decide +kernel
theorem dX12_leaf_11 : decode cX12_leaf 11 = .ok (.if_icmp .ge 7, 3) := by decide +kernel
theorem dX12_leaf_14 : decode cX12_leaf 14 = .ok (.iconst 1, 1) := by decide +kernel
theorem dX12_leaf_15 : decode cX12_leaf 15 = .ok (.goto 4, 3) := by decide +kernel
theorem dX12_open_0 : decode cX12_open 0 = .ok (.aload_n 0, 1) := by decide +kernel
theorem dX12_open_1 : decode cX12_open 1 = .ok (.aload_n 0, 1) := by decide +kernel
theorem dX12_open_2 : decode cX12_open 2 = .ok (.getfield 284, 3) := by decide +kernel
theorem dX12_open_5 : decode cX12_open 5 = .ok (.bipush 8, 2) := by decide +kernel
theorem dX12_open_7 : decode cX12_open 7 = .ok (.if_icmp .ge 7, 3) := by decide +kernel
theorem dX12_open_14 : decode cX12_open 14 = .ok (.iconst 0, 1) := by decide +kernel
theorem dX12_open_15 : decode cX12_open 15 = .ok (.invokevirtual 225, 3) := by decide +kernel
theorem dX12_open_18 : decode cX12_open 18 = .ok (.aload_n 0, 1) := by decide +kernel
theorem dX12_open_19 : decode cX12_open 19 = .ok (.getfield 193, 3) := by decide +kernel
theorem dX12_open_22 : decode cX12_open 22 = .ok (.ifCond .ne 19, 3) := by decide +kernel
theorem dX12_open_41 : decode cX12_open 41 = .ok (.return_, 1) := by decide +kernel
theorem dX12_open_25 : decode cX12_open 25 = .ok (.aload_n 0, 1) := by decide +kernel
theorem dX12_open_26 : decode cX12_open 26 = .ok (.dup, 1) := by decide +kernel
theorem dX12_open_27 : decode cX12_open 27 = .ok (.getfield 284, 3) := by decide +kernel
theorem dX12_open_30 : decode cX12_open 30 = .ok (.iconst 1, 1) := by decide +kernel
theorem dX12_open_31 : decode cX12_open 31 = .ok (.iadd, 1) := by decide +kernel
theorem dX12_open_32 : decode cX12_open 32 = .ok (.putfield 284, 3) := by decide +kernel
theorem dX12_open_35 : decode cX12_open 35 = .ok (.aload_n 0, 1) := by decide +kernel
theorem dX12_open_36 : decode cX12_open 36 = .ok (.iload_n 1, 1) := by decide +kernel
theorem dX12_open_37 : decode cX12_open 37 = .ok (.iconst 0, 1) := by decide +kernel
theorem dX12_open_38 : decode cX12_open 38 = .ok (.invokevirtual 287, 3) := by decide +kernel
theorem dX12_open_10 : decode cX12_open 10 = .ok (.iconst 1, 1) := by decide +kernel
theorem dX12_open_11 : decode cX12_open 11 = .ok (.goto 4, 3) := by decide +kernel
theorem dX12_readPart_0 : decode cX12_readPart 0 = .ok (.aload_n 0, 1) := by decide +kernel
theorem dX12_readPart_1 : decode cX12_readPart 1 = .ok (.bipush 91, 2) := by decide +kernel
theorem dX12_readPart_3 : decode cX12_readPart 3 = .ok (.invokevirtual 293, 3) := by decide +kernel
theorem dX12_readPart_6 : decode cX12_readPart 6 = .ok (.ifCond .eq 11, 3) := by decide +kernel
theorem dX12_readPart_17 : decode cX12_readPart 17 = .ok (.aload_n 0, 1) := by decide +kernel
theorem dX12_readPart_18 : decode cX12_readPart 18 = .ok (.invokevirtual 299, 3) := by decide +kernel
theorem dX12_readPart_21 : decode cX12_readPart 21 = .ok (.istore_n 1, 1) := by decide +kernel
theorem dX12_readPart_22 : decode cX12_readPart 22 = .ok (.aload_n 0, 1) := by decide +kernel
theorem dX12_readPart_23 : decode cX12_readPart 23 = .ok (.getfield 212, 3) := by decide +kernel
theorem dX12_readPart_26 : decode cX12_readPart 26 = .ok (.iconst 2, 1) := by decide +kernel
theorem dX12_readPart_27 : decode cX12_readPart 27 = .ok (.if_icmp .ne 18, 3) := by decide +kernel
theorem dX12_readPart_45 : decode cX12_readPart 45 = .ok (.iconst 0, 1) := by decide +kernel
theorem dX12_readPart_46 : decode cX12_readPart 46 = .ok (.istore_n 2, 1) := by decide +kernel
theorem dX12_readPart_47 : decode cX12_readPart 47 = .ok (.aload_n 0, 1) := by decide +kernel
theorem dX12_readPart_48 : decode cX12_readPart 48 = .ok (.iload_n 1, 1) := by decide +kernel
theorem dX12_readPart_49 : decode cX12_readPart 49 = .ok (.iconst (-1), 1) := by decide +kernel
theorem dX12_readPart_50 : decode cX12_readPart 50 = .ok (.if_icmp .ne 7, 3) := by decide +kernel
theorem dX12_readPart_57 : decode cX12_readPart 57 = .ok (.iconst 1, 1) := by decide +kernel
theorem dX12_readPart_58 : decode cX12_readPart 58 = .ok (.goto 4, 3) := by decide +kernel
theorem dX12_readPart_62 : decode cX12_readPart 62 = .ok (.iload_n 1, 1) := by decide +kernel
theorem dX12_readPart_63 : decode cX12_readPart 63 = .ok (.iconst (-1), 1) := by decide +kernel
theorem dX12_readPart_64 : decode cX12_readPart 64 = .ok (.if_icmp .ne 7, 3) := by decide +kernel
theorem dX12_readPart_71 : decode cX12_readPart 71 = .ok (.iload_n 1, 1) := by decide +kernel
theorem dX12_readPart_72 : decode cX12_readPart 72 = .ok (.iload_n 2, 1) := by decide +kernel
theorem dX12_readPart_73 : decode cX12_readPart 73 = .ok (.ifCond .eq 11, 3) := by decide +kernel
theorem dX12_readPart_84 : decode cX12_readPart 84 = .ok (.iconst 0, 1) := by decide +kernel
theorem dX12_readPart_85 : decode cX12_readPart 85 = .ok (.invokevirtual 303, 3) := by decide +kernel
theorem dX12_readPart_88 : decode cX12_readPart 88 = .ok (.iconst 3, 1) := by decide +kernel
theorem dX12_readPart_89 : decode cX12_readPart 89 = .ok (.ireturn, 1) := by decide +kernel
theorem dX12_readPart_53 : decode cX12_readPart 53 = .ok (.iload_n 2, 1) := by decide +kernel
theorem dX12_readPart_54 : decode cX12_readPart 54 = .ok (.ifCond .eq 7, 3) := by decide +kernel
theorem dX12_readPart_61 : decode cX12_readPart 61 = .ok (.iconst 0, 1) := by decide +kernel
theorem dX12_readPart_67 : decode cX12_readPart 67 = .ok (.iconst 0, 1) := by decide +kernel
theorem dX12_readPart_68 : decode cX12_readPart 68 = .ok (.goto 4, 3) := by decide +kernel
theorem dX12_readPart_30 : decode cX12_readPart 30 = .ok (.aload_n 0, 1) := by decide +kernel
theorem dX12_readPart_31 : decode cX12_readPart 31 = .ok (.getfield 202, 3) := by decide +kernel
theorem dX12_readPart_34 : decode cX12_readPart 34 = .ok (.ldc2_w 130, 3) := by decide +kernel
theorem dX12_readPart_37 : decode cX12_readPart 37 = .ok (.lcmp, 1) := by decide +kernel
theorem dX12_readPart_38 : decode cX12_readPart 38 = .ok (.ifCond .gt 7, 3) := by decide +kernel
theorem dX12_readPart_41 : decode cX12_readPart 41 = .ok (.iconst 1, 1) := by decide +kernel
theorem dX12_readPart_42 : decode cX12_readPart 42 = .ok (.goto 4, 3) := by decide +kernel
theorem dX12_readPart_76 : decode cX12_readPart 76 = .ok (.aload_n 0, 1) := by decide +kernel
theorem dX12_readPart_77 : decode cX12_readPart 77 = .ok (.getfield 202, 3) := by decide +kernel
theorem dX12_readPart_80 : decode cX12_readPart 80 = .ok (.l2i, 1) := by decide +kernel
theorem dX12_readPart_81 : decode cX12_readPart 81 = .ok (.goto 4, 3) := by decide +kernel
theorem dX12_readPart_9 : decode cX12_readPart 9 = .ok (.aload_n 0, 1) := by decide +kernel
theorem dX12_readPart_10 : decode cX12_readPart 10 = .ok (.bipush 31, 2) := by decide +kernel
theorem dX12_readPart_12 : decode cX12_readPart 12 = .ok (.invokevirtual 296, 3) := by decide +kernel
theorem dX12_readPart_15 : decode cX12_readPart 15 = .ok (.iconst 1, 1) := by decide +kernel
theorem dX12_readPart_16 : decode cX12_readPart 16 = .ok (.ireturn, 1) := by decide +kernel
theorem dX12_readPlain_0 : decode cX12_readPlain 0 = .ok (.aload_n 0, 1) := by decide +kernel
theorem dX12_readPlain_1 : decode cX12_readPlain 1 = .ok (.ldc2_w 307, 3) := by decide +kernel
theorem dX12_readPlain_4 : decode cX12_readPlain 4 = .ok (.invokevirtual 252, 3) := by decide +kernel
theorem dX12_readPlain_7 : decode cX12_readPlain 7 = .ok (.ifCond .eq 16, 3) := by decide +kernel
theorem dX12_readPlain_23 : decode cX12_readPlain 23 = .ok (.aload_n 0, 1) := by decide +kernel
theorem dX12_readPlain_24 : decode cX12_readPlain 24 = .ok (.bipush 40, 2) := by decide +kernel
theorem dX12_readPlain_26 : decode cX12_readPlain 26 = .ok (.invokevirtual 293, 3) := by decide +kernel
theorem dX12_readPlain_29 : decode cX12_readPlain 29 = .ok (.ifCond .eq 11, 3) := by decide +kernel
theorem dX12_readPlain_40 : decode cX12_readPlain 40 = .ok (.aload_n 0, 1) := by decide +kernel
theorem dX12_readPlain_41 : decode cX12_readPlain 41 = .ok (.invokevirtual 309, 3) := by decide +kernel
theorem dX12_readPlain_44 : decode cX12_readPlain 44 = .ok (.istore_n 1, 1) := by decide +kernel
theorem dX12_readPlain_45 : decode cX12_readPlain 45 = .ok (.iload_n 1, 1) := by decide +kernel
theorem dX12_readPlain_46 : decode cX12_readPlain 46 = .ok (.iconst (-1), 1) := by decide +kernel
theorem dX12_readPlain_47 : decode cX12_readPlain 47 = .ok (.if_icmp .eq 12, 3) := by decide +kernel
theorem dX12_readPlain_59 : decode cX12_readPlain 59 = .ok (.aload_n 0, 1) := by decide +kernel
theorem dX12_readPlain_60 : decode cX12_readPlain 60 = .ok (.invokevirtual 312, 3) := by decide +kernel
theorem dX12_readPlain_63 : decode cX12_readPlain 63 = .ok (.ireturn, 1) := by decide +kernel
theorem dX12_readPlain_50 : decode cX12_readPlain 50 = .ok (.aload_n 0, 1) := by decide +kernel
theorem dX12_readPlain_51 : decode cX12_readPlain 51 = .ok (.iconst 1, 1) := by decide +kernel
theorem dX12_readPlain_52 : decode cX12_readPlain 52 = .ok (.iload_n 1, 1) := by decide +kernel
theorem dX12_readPlain_53 : decode cX12_readPlain 53 = .ok (.iconst 0, 1) := by decide +kernel
theorem dX12_readPlain_54 : decode cX12_readPlain 54 = .ok (.invokevirtual 303, 3) := by decide +kernel
theorem dX12_readPlain_57 : decode cX12_readPlain 57 = .ok (.iconst 2, 1) := by decide +kernel
theorem dX12_readPlain_58 : decode cX12_readPlain 58 = .ok (.ireturn, 1) := by decide +kernel
theorem dX12_readPlain_32 : decode cX12_readPlain 32 = .ok (.aload_n 0, 1) := by decide +kernel
theorem dX12_readPlain_33 : decode cX12_readPlain 33 = .ok (.bipush 30, 2) := by decide +kernel
theorem dX12_readPlain_35 : decode cX12_readPlain 35 = .ok (.invokevirtual 296, 3) := by decide +kernel
theorem dX12_readPlain_38 : decode cX12_readPlain 38 = .ok (.iconst 0, 1) := by decide +kernel
theorem dX12_readPlain_39 : decode cX12_readPlain 39 = .ok (.ireturn, 1) := by decide +kernel
theorem dX12_readPlain_10 : decode cX12_readPlain 10 = .ok (.aload_n 0, 1) := by decide +kernel
theorem dX12_readPlain_11 : decode cX12_readPlain 11 = .ok (.bipush 27, 2) := by decide +kernel
theorem dX12_readPlain_13 : decode cX12_readPlain 13 = .ok (.iconst 0, 1) := by decide +kernel
theorem dX12_readPlain_14 : decode cX12_readPlain 14 = .ok (.invokevirtual 287, 3) := by decide +kernel
theorem dX12_readPlain_17 : decode cX12_readPlain 17 = .ok (.aload_n 0, 1) := by decide +kernel
theorem dX12_readPlain_18 : decode cX12_readPlain 18 = .ok (.invokevirtual 196, 3) := by decide +kernel
theorem dX12_readPlain_21 : decode cX12_readPlain 21 = .ok (.iconst 0, 1) := by decide +kernel
theorem dX12_readPlain_22 : decode cX12_readPlain 22 = .ok (.ireturn, 1) := by decide +kernel
theorem dX12_behindSum_0 : decode cX12_behindSum 0 = .ok (.aload_n 0, 1) := by decide +kernel
theorem dX12_behindSum_1 : decode cX12_behindSum 1 = .ok (.bipush 43, 2) := by decide +kernel
theorem dX12_behindSum_3 : decode cX12_behindSum 3 = .ok (.invokevirtual 293, 3) := by decide +kernel
theorem dX12_behindSum_6 : decode cX12_behindSum 6 = .ok (.ifCond .eq 8, 3) := by decide +kernel
theorem dX12_behindSum_14 : decode cX12_behindSum 14 = .ok (.aload_n 0, 1) := by decide +kernel
theorem dX12_behindSum_15 : decode cX12_behindSum 15 = .ok (.bipush 45, 2) := by decide +kernel
theorem dX12_behindSum_17 : decode cX12_behindSum 17 = .ok (.invokevirtual 293, 3) := by decide +kernel
theorem dX12_behindSum_20 : decode cX12_behindSum 20 = .ok (.ifCond .eq 8, 3) := by decide +kernel
theorem dX12_behindSum_28 : decode cX12_behindSum 28 = .ok (.aload_n 0, 1) := by decide +kernel
theorem dX12_behindSum_29 : decode cX12_behindSum 29 = .ok (.bipush 42, 2) := by decide +kernel
theorem dX12_behindSum_31 : decode cX12_behindSum 31 = .ok (.invokevirtual 293, 3) := by decide +kernel
theorem dX12_behindSum_34 : decode cX12_behindSum 34 = .ok (.ifCond .eq 8, 3) := by decide +kernel
theorem dX12_behindSum_42 : decode cX12_behindSum 42 = .ok (.aload_n 0, 1) := by decide +kernel
theorem dX12_behindSum_43 : decode cX12_behindSum 43 = .ok (.bipush 47, 2) := by decide +kernel
theorem dX12_behindSum_45 : decode cX12_behindSum 45 = .ok (.invokevirtual 293, 3) := by decide +kernel
theorem dX12_behindSum_48 : decode cX12_behindSum 48 = .ok (.ifCond .eq 8, 3) := by decide +kernel
theorem dX12_behindSum_56 : decode cX12_behindSum 56 = .ok (.iconst (-1), 1) := by decide +kernel
theorem dX12_behindSum_57 : decode cX12_behindSum 57 = .ok (.istore_n 2, 1) := by decide +kernel
theorem dX12_behindSum_58 : decode cX12_behindSum 58 = .ok (.iload_n 2, 1) := by decide +kernel
theorem dX12_behindSum_59 : decode cX12_behindSum 59 = .ok (.iconst (-1), 1) := by decide +kernel
theorem dX12_behindSum_60 : decode cX12_behindSum 60 = .ok (.if_icmp .eq 23, 3) := by decide +kernel
theorem dX12_behindSum_83 : decode cX12_behindSum 83 = .ok (.aload_n 0, 1) := by decide +kernel
theorem dX12_behindSum_84 : decode cX12_behindSum 84 = .ok (.invokevirtual 318, 3) := by decide +kernel
theorem dX12_behindSum_87 : decode cX12_behindSum 87 = .ok (.istore_n 3, 1) := by decide +kernel
theorem dX12_behindSum_88 : decode cX12_behindSum 88 = .ok (.iload_n 3, 1) := by decide +kernel
theorem dX12_behindSum_89 : decode cX12_behindSum 89 = .ok (.bipush 31, 2) := by decide +kernel
theorem dX12_behindSum_91 : decode cX12_behindSum 91 = .ok (.if_icmp .ne 47, 3) := by decide +kernel
theorem dX12_behindSum_138 : decode cX12_behindSum 138 = .ok (.iload_n 3, 1) := by decide +kernel
theorem dX12_behindSum_139 : decode cX12_behindSum 139 = .ok (.iconst (-1), 1) := by decide +kernel
theorem dX12_behindSum_140 : decode cX12_behindSum 140 = .ok (.if_icmp .ne 9, 3) := by decide +kernel
theorem dX12_behindSum_149 : decode cX12_behindSum 149 = .ok (.aload_n 0, 1) := by decide +kernel
theorem dX12_behindSum_150 : decode cX12_behindSum 150 = .ok (.invokevirtual 321, 3) := by decide +kernel
theorem dX12_behindSum_153 : decode cX12_behindSum 153 = .ok (.ifCond .eq 5, 3) := by decide +kernel
theorem dX12_behindSum_158 : decode cX12_behindSum 158 = .ok (.aload_n 0, 1) := by decide +kernel
theorem dX12_behindSum_159 : decode cX12_behindSum 159 = .ok (.bipush 60, 2) := by decide +kernel
theorem dX12_behindSum_161 : decode cX12_behindSum 161 = .ok (.invokevirtual 293, 3) := by decide +kernel
theorem dX12_behindSum_164 : decode cX12_behindSum 164 = .ok (.ifCond .eq 8, 3) := by decide +kernel
theorem dX12_behindSum_172 : decode cX12_behindSum 172 = .ok (.aload_n 0, 1) := by decide +kernel
theorem dX12_behindSum_173 : decode cX12_behindSum 173 = .ok (.bipush 62, 2) := by decide +kernel
theorem dX12_behindSum_175 : decode cX12_behindSum 175 = .ok (.invokevirtual 293, 3) := by decide +kernel
theorem dX12_behindSum_178 : decode cX12_behindSum 178 = .ok (.ifCond .eq 8, 3) := by decide +kernel
theorem dX12_behindSum_186 : decode cX12_behindSum 186 = .ok (.bipush 26, 2) := by decide +kernel
theorem dX12_behindSum_188 : decode cX12_behindSum 188 = .ok (.istore_n 2, 1) := by decide +kernel
theorem dX12_behindSum_189 : decode cX12_behindSum 189 = .ok (.aload_n 0, 1) := by decide +kernel
theorem dX12_behindSum_190 : decode cX12_behindSum 190 = .ok (.iload_n 2, 1) := by decide +kernel
theorem dX12_behindSum_191 : decode cX12_behindSum 191 = .ok (.bipush 26, 2) := by decide +kernel
theorem dX12_behindSum_193 : decode cX12_behindSum 193 = .ok (.if_icmp .ne 12, 3) := by decide +kernel
theorem dX12_behindSum_196 : decode cX12_behindSum 196 = .ok (.aload_n 0, 1) := by decide +kernel
theorem dX12_behindSum_197 : decode cX12_behindSum 197 = .ok (.bipush 61, 2) := by decide +kernel
theorem dX12_behindSum_199 : decode cX12_behindSum 199 = .ok (.invokevirtual 293, 3) := by decide +kernel
theorem dX12_behindSum_202 : decode cX12_behindSum 202 = .ok (.ifCond .eq 7, 3) := by decide +kernel
theorem dX12_behindSum_209 : decode cX12_behindSum 209 = .ok (.iconst 0, 1) := by decide +kernel
theorem dX12_behindSum_210 : decode cX12_behindSum 210 = .ok (.invokevirtual 225, 3) := by decide +kernel
theorem dX12_behindSum_213 : decode cX12_behindSum 213 = .ok (.aload_n 0, 1) := by decide +kernel
theorem dX12_behindSum_214 : decode cX12_behindSum 214 = .ok (.getfield 193, 3) := by decide +kernel
theorem dX12_behindSum_217 : decode cX12_behindSum 217 = .ok (.ifCond .ne 14, 3) := by decide +kernel
theorem dX12_behindSum_231 : decode cX12_behindSum 231 = .ok (.iconst 1, 1) := by decide +kernel
theorem dX12_behindSum_232 : decode cX12_behindSum 232 = .ok (.ireturn, 1) := by decide +kernel
theorem dX12_behindSum_220 : decode cX12_behindSum 220 = .ok (.aload_n 0, 1) := by decide +kernel
theorem dX12_behindSum_221 : decode cX12_behindSum 221 = .ok (.iconst 5, 1) := by decide +kernel
theorem dX12_behindSum_222 : decode cX12_behindSum 222 = .ok (.invokevirtual 315, 3) := by decide +kernel
theorem dX12_behindSum_225 : decode cX12_behindSum 225 = .ok (.aload_n 0, 1) := by decide +kernel
theorem dX12_behindSum_226 : decode cX12_behindSum 226 = .ok (.iload_n 2, 1) := by decide +kernel
theorem dX12_behindSum_227 : decode cX12_behindSum 227 = .ok (.iconst 0, 1) := by decide +kernel
theorem dX12_behindSum_228 : decode cX12_behindSum 228 = .ok (.invokevirtual 287, 3) := by decide +kernel
theorem dX12_behindSum_205 : decode cX12_behindSum 205 = .ok (.iconst 1, 1) := by decide +kernel
theorem dX12_behindSum_206 : decode cX12_behindSum 206 = .ok (.goto 4, 3) := by decide +kernel
theorem dX12_behindSum_181 : decode cX12_behindSum 181 = .ok (.bipush 25, 2) := by decide +kernel
theorem dX12_behindSum_183 : decode cX12_behindSum 183 = .ok (.goto 5, 3) := by decide +kernel
theorem dX12_behindSum_167 : decode cX12_behindSum 167 = .ok (.bipush 24, 2) := by decide +kernel
theorem dX12_behindSum_169 : decode cX12_behindSum 169 = .ok (.goto 19, 3) := by decide +kernel
theorem dX12_behindSum_156 : decode cX12_behindSum 156 = .ok (.iconst 2, 1) := by decide +kernel
theorem dX12_behindSum_157 : decode cX12_behindSum 157 = .ok (.ireturn, 1) := by decide +kernel
theorem dX12_behindSum_143 : decode cX12_behindSum 143 = .ok (.iload_n 1, 1) := by decide +kernel
theorem dX12_behindSum_144 : decode cX12_behindSum 144 = .ok (.ifCond .ne 5, 3) := by decide +kernel
theorem dX12_behindSum_147 : decode cX12_behindSum 147 = .ok (.iconst 4, 1) := by decide +kernel
theorem dX12_behindSum_148 : decode cX12_behindSum 148 = .ok (.ireturn, 1) := by decide +kernel
theorem dX12_behindSum_94 : decode cX12_behindSum 94 = .ok (.aload_n 0, 1) := by decide +kernel
theorem dX12_behindSum_95 : decode cX12_behindSum 95 = .ok (.aload_n 0, 1) := by decide +kernel
theorem dX12_behindSum_96 : decode cX12_behindSum 96 = .ok (.bipush 93, 2) := by decide +kernel
theorem dX12_behindSum_98 : decode cX12_behindSum 98 = .ok (.invokevirtual 293, 3) := by decide +kernel
theorem dX12_behindSum_101 : decode cX12_behindSum 101 = .ok (.invokevirtual 225, 3) := by decide +kernel
theorem dX12_behindSum_104 : decode cX12_behindSum 104 = .ok (.aload_n 0, 1) := by decide +kernel
theorem dX12_behindSum_105 : decode cX12_behindSum 105 = .ok (.getfield 193, 3) := by decide +kernel
theorem dX12_behindSum_108 : decode cX12_behindSum 108 = .ok (.ifCond .ne 28, 3) := by decide +kernel
theorem dX12_behindSum_136 : decode cX12_behindSum 136 = .ok (.iconst 3, 1) := by decide +kernel
theorem dX12_behindSum_137 : decode cX12_behindSum 137 = .ok (.ireturn, 1) := by decide +kernel
theorem dX12_behindSum_111 : decode cX12_behindSum 111 = .ok (.aload_n 0, 1) := by decide +kernel
theorem dX12_behindSum_112 : decode cX12_behindSum 112 = .ok (.iconst 5, 1) := by decide +kernel
theorem dX12_behindSum_113 : decode cX12_behindSum 113 = .ok (.invokevirtual 315, 3) := by decide +kernel
theorem dX12_behindSum_116 : decode cX12_behindSum 116 = .ok (.aload_n 0, 1) := by decide +kernel
theorem dX12_behindSum_117 : decode cX12_behindSum 117 = .ok (.dup, 1) := by decide +kernel
theorem dX12_behindSum_118 : decode cX12_behindSum 118 = .ok (.getfield 232, 3) := by decide +kernel
theorem dX12_behindSum_121 : decode cX12_behindSum 121 = .ok (.iconst 1, 1) := by decide +kernel
theorem dX12_behindSum_122 : decode cX12_behindSum 122 = .ok (.isub, 1) := by decide +kernel
theorem dX12_behindSum_123 : decode cX12_behindSum 123 = .ok (.putfield 232, 3) := by decide +kernel
theorem dX12_behindSum_126 : decode cX12_behindSum 126 = .ok (.aload_n 0, 1) := by decide +kernel
theorem dX12_behindSum_127 : decode cX12_behindSum 127 = .ok (.dup, 1) := by decide +kernel
theorem dX12_behindSum_128 : decode cX12_behindSum 128 = .ok (.getfield 284, 3) := by decide +kernel
theorem dX12_behindSum_131 : decode cX12_behindSum 131 = .ok (.iconst 1, 1) := by decide +kernel
theorem dX12_behindSum_132 : decode cX12_behindSum 132 = .ok (.isub, 1) := by decide +kernel
theorem dX12_behindSum_133 : decode cX12_behindSum 133 = .ok (.putfield 284, 3) := by decide +kernel
theorem dX12_behindSum_51 : decode cX12_behindSum 51 = .ok (.bipush 23, 2) := by decide +kernel
theorem dX12_behindSum_53 : decode cX12_behindSum 53 = .ok (.goto 4, 3) := by decide +kernel
theorem dX12_behindSum_63 : decode cX12_behindSum 63 = .ok (.aload_n 0, 1) := by decide +kernel
theorem dX12_behindSum_64 : decode cX12_behindSum 64 = .ok (.iload_n 2, 1) := by decide +kernel
theorem dX12_behindSum_65 : decode cX12_behindSum 65 = .ok (.invokestatic 235, 3) := by decide +kernel
theorem dX12_behindSum_68 : decode cX12_behindSum 68 = .ok (.invokevirtual 315, 3) := by decide +kernel
theorem dX12_behindSum_71 : decode cX12_behindSum 71 = .ok (.aload_n 0, 1) := by decide +kernel
theorem dX12_behindSum_72 : decode cX12_behindSum 72 = .ok (.iload_n 2, 1) := by decide +kernel
theorem dX12_behindSum_73 : decode cX12_behindSum 73 = .ok (.iconst 0, 1) := by decide +kernel
theorem dX12_behindSum_74 : decode cX12_behindSum 74 = .ok (.invokevirtual 287, 3) := by decide +kernel
theorem dX12_behindSum_77 : decode cX12_behindSum 77 = .ok (.aload_n 0, 1) := by decide +kernel
theorem dX12_behindSum_78 : decode cX12_behindSum 78 = .ok (.invokevirtual 196, 3) := by decide +kernel
theorem dX12_behindSum_81 : decode cX12_behindSum 81 = .ok (.iconst 1, 1) := by decide +kernel
theorem dX12_behindSum_82 : decode cX12_behindSum 82 = .ok (.ireturn, 1) := by decide +kernel
theorem dX12_behindSum_37 : decode cX12_behindSum 37 = .ok (.bipush 22, 2) := by decide +kernel
theorem dX12_behindSum_39 : decode cX12_behindSum 39 = .ok (.goto 18, 3) := by decide +kernel
theorem dX12_behindSum_23 : decode cX12_behindSum 23 = .ok (.bipush 21, 2) := by decide +kernel
theorem dX12_behindSum_25 : decode cX12_behindSum 25 = .ok (.goto 32, 3) := by decide +kernel
theorem dX12_behindSum_9 : decode cX12_behindSum 9 = .ok (.bipush 20, 2) := by decide +kernel
theorem dX12_behindSum_11 : decode cX12_behindSum 11 = .ok (.goto 46, 3) := by decide +kernel
theorem dX12_behindTest_0 : decode cX12_behindTest 0 = .ok (.aload_n 0, 1) := by decide +kernel
theorem dX12_behindTest_1 : decode cX12_behindTest 1 = .ok (.ldc2_w 325, 3) := by decide +kernel
theorem dX12_behindTest_4 : decode cX12_behindTest 4 = .ok (.invokevirtual 252, 3) := by decide +kernel
theorem dX12_behindTest_7 : decode cX12_behindTest 7 = .ok (.istore_n 1, 1) := by decide +kernel
theorem dX12_behindTest_8 : decode cX12_behindTest 8 = .ok (.iload_n 1, 1) := by decide +kernel
theorem dX12_behindTest_9 : decode cX12_behindTest 9 = .ok (.ifCond .ne 13, 3) := by decide +kernel
theorem dX12_behindTest_22 : decode cX12_behindTest 22 = .ok (.aload_n 0, 1) := by decide +kernel
theorem dX12_behindTest_23 : decode cX12_behindTest 23 = .ok (.iload_n 1, 1) := by decide +kernel
theorem dX12_behindTest_24 : decode cX12_behindTest 24 = .ok (.ifCond .eq 7, 3) := by decide +kernel
theorem dX12_behindTest_27 : decode cX12_behindTest 27 = .ok (.iconst 2, 1) := by decide +kernel
theorem dX12_behindTest_28 : decode cX12_behindTest 28 = .ok (.goto 4, 3) := by decide +kernel
theorem dX12_behindTest_32 : decode cX12_behindTest 32 = .ok (.invokevirtual 315, 3) := by decide +kernel
theorem dX12_behindTest_35 : decode cX12_behindTest 35 = .ok (.aload_n 0, 1) := by decide +kernel
theorem dX12_behindTest_36 : decode cX12_behindTest 36 = .ok (.iload_n 1, 1) := by decide +kernel
theorem dX12_behindTest_37 : decode cX12_behindTest 37 = .ok (.ifCond .eq 8, 3) := by decide +kernel
theorem dX12_behindTest_40 : decode cX12_behindTest 40 = .ok (.bipush 28, 2) := by decide +kernel
theorem dX12_behindTest_42 : decode cX12_behindTest 42 = .ok (.goto 5, 3) := by decide +kernel
theorem dX12_behindTest_47 : decode cX12_behindTest 47 = .ok (.aload_n 0, 1) := by decide +kernel
theorem dX12_behindTest_48 : decode cX12_behindTest 48 = .ok (.getfield 229, 3) := by decide +kernel
theorem dX12_behindTest_51 : decode cX12_behindTest 51 = .ok (.invokevirtual 287, 3) := by decide +kernel
theorem dX12_behindTest_54 : decode cX12_behindTest 54 = .ok (.aload_n 0, 1) := by decide +kernel
theorem dX12_behindTest_55 : decode cX12_behindTest 55 = .ok (.iload_n 1, 1) := by decide +kernel
theorem dX12_behindTest_56 : decode cX12_behindTest 56 = .ok (.ifCond .eq 8, 3) := by decide +kernel
theorem dX12_behindTest_59 : decode cX12_behindTest 59 = .ok (.bipush 28, 2) := by decide +kernel
theorem dX12_behindTest_61 : decode cX12_behindTest 61 = .ok (.goto 5, 3) := by decide +kernel
theorem dX12_behindTest_66 : decode cX12_behindTest 66 = .ok (.iconst 0, 1) := by decide +kernel
theorem dX12_behindTest_67 : decode cX12_behindTest 67 = .ok (.invokevirtual 238, 3) := by decide +kernel
theorem dX12_behindTest_70 : decode cX12_behindTest 70 = .ok (.aload_n 0, 1) := by decide +kernel
theorem dX12_behindTest_71 : decode cX12_behindTest 71 = .ok (.invokevirtual 196, 3) := by decide +kernel
theorem dX12_behindTest_74 : decode cX12_behindTest 74 = .ok (.iconst 0, 1) := by decide +kernel
theorem dX12_behindTest_75 : decode cX12_behindTest 75 = .ok (.ireturn, 1) := by decide +kernel
theorem dX12_behindTest_12 : decode cX12_behindTest 12 = .ok (.aload_n 0, 1) := by decide +kernel
theorem dX12_behindTest_13 : decode cX12_behindTest 13 = .ok (.ldc2_w 327, 3) := by decide +kernel
theorem dX12_behindTest_16 : decode cX12_behindTest 16 = .ok (.invokevirtual 252, 3) := by decide +kernel
theorem dX12_behindTest_19 : decode cX12_behindTest 19 = .ok (.ifCond .eq 57, 3) := by decide +kernel
theorem dX12_behindTest_76 : decode cX12_behindTest 76 = .ok (.aload_n 0, 1) := by decide +kernel
theorem dX12_behindTest_77 : decode cX12_behindTest 77 = .ok (.invokevirtual 318, 3) := by decide +kernel
theorem dX12_behindTest_80 : decode cX12_behindTest 80 = .ok (.iconst (-1), 1) := by decide +kernel
theorem dX12_behindTest_81 : decode cX12_behindTest 81 = .ok (.if_icmp .ne 5, 3) := by decide +kernel
theorem dX12_behindTest_86 : decode cX12_behindTest 86 = .ok (.aload_n 0, 1) := by decide +kernel
theorem dX12_behindTest_87 : decode cX12_behindTest 87 = .ok (.aload_n 0, 1) := by decide +kernel
theorem dX12_behindTest_88 : decode cX12_behindTest 88 = .ok (.bipush 41, 2) := by decide +kernel
theorem dX12_behindTest_90 : decode cX12_behindTest 90 = .ok (.invokevirtual 293, 3) := by decide +kernel
theorem dX12_behindTest_93 : decode cX12_behindTest 93 = .ok (.invokevirtual 225, 3) := by decide +kernel
theorem dX12_behindTest_96 : decode cX12_behindTest 96 = .ok (.aload_n 0, 1) := by decide +kernel
theorem dX12_behindTest_97 : decode cX12_behindTest 97 = .ok (.getfield 193, 3) := by decide +kernel
theorem dX12_behindTest_100 : decode cX12_behindTest 100 = .ok (.ifCond .ne 28, 3) := by decide +kernel
theorem dX12_behindTest_128 : decode cX12_behindTest 128 = .ok (.iconst 2, 1) := by decide +kernel
theorem dX12_behindTest_129 : decode cX12_behindTest 129 = .ok (.ireturn, 1) := by decide +kernel
theorem dX12_behindTest_103 : decode cX12_behindTest 103 = .ok (.aload_n 0, 1) := by decide +kernel
theorem dX12_behindTest_104 : decode cX12_behindTest 104 = .ok (.iconst 1, 1) := by decide +kernel
theorem dX12_behindTest_105 : decode cX12_behindTest 105 = .ok (.invokevirtual 315, 3) := by decide +kernel
theorem dX12_behindTest_108 : decode cX12_behindTest 108 = .ok (.aload_n 0, 1) := by decide +kernel
theorem dX12_behindTest_109 : decode cX12_behindTest 109 = .ok (.dup, 1) := by decide +kernel
theorem dX12_behindTest_110 : decode cX12_behindTest 110 = .ok (.getfield 232, 3) := by decide +kernel
theorem dX12_behindTest_113 : decode cX12_behindTest 113 = .ok (.iconst 1, 1) := by decide +kernel
theorem dX12_behindTest_114 : decode cX12_behindTest 114 = .ok (.isub, 1) := by decide +kernel
theorem dX12_behindTest_115 : decode cX12_behindTest 115 = .ok (.putfield 232, 3) := by decide +kernel
theorem dX12_behindTest_118 : decode cX12_behindTest 118 = .ok (.aload_n 0, 1) := by decide +kernel
theorem dX12_behindTest_119 : decode cX12_behindTest 119 = .ok (.dup, 1) := by decide +kernel
theorem dX12_behindTest_120 : decode cX12_behindTest 120 = .ok (.getfield 284, 3) := by decide +kernel
theorem dX12_behindTest_123 : decode cX12_behindTest 123 = .ok (.iconst 1, 1) := by decide +kernel
theorem dX12_behindTest_124 : decode cX12_behindTest 124 = .ok (.isub, 1) := by decide +kernel
theorem dX12_behindTest_125 : decode cX12_behindTest 125 = .ok (.putfield 284, 3) := by decide +kernel
theorem dX12_behindTest_84 : decode cX12_behindTest 84 = .ok (.iconst 4, 1) := by decide +kernel
theorem dX12_behindTest_85 : decode cX12_behindTest 85 = .ok (.ireturn, 1) := by decide +kernel
theorem dX12_behindTest_31 : decode cX12_behindTest 31 = .ok (.iconst 1, 1) := by decide +kernel
theorem dX12_behindTest_45 : decode cX12_behindTest 45 = .ok (.bipush 29, 2) := by decide +kernel
theorem dX12_behindTest_64 : decode cX12_behindTest 64 = .ok (.bipush 29, 2) := by decide +kernel
theorem dX12_readExpression_0 : decode cX12_readExpression 0 = .ok (.aload_n 0, 1) := by decide +kernel
theorem dX12_readExpression_1 : decode cX12_readExpression 1 = .ok (.iconst 0, 1) := by decide +kernel
theorem dX12_readExpression_2 : decode cX12_readExpression 2 = .ok (.putfield 232, 3) := by decide +kernel
theorem dX12_readExpression_5 : decode cX12_readExpression 5 = .ok (.aload_n 0, 1) := by decide +kernel
theorem dX12_readExpression_6 : decode cX12_readExpression 6 = .ok (.iconst 0, 1) := by decide +kernel
theorem dX12_readExpression_7 : decode cX12_readExpression 7 = .ok (.putfield 284, 3) := by decide +kernel
theorem dX12_readExpression_10 : decode cX12_readExpression 10 = .ok (.iload_n 1, 1) := by decide +kernel
theorem dX12_readExpression_11 : decode cX12_readExpression 11 = .ok (.ifCond .eq 7, 3) := by decide +kernel
theorem dX12_readExpression_19 : decode cX12_readExpression 19 = .ok (.istore_n 2, 1) := by decide +kernel
theorem dX12_readExpression_20 : decode cX12_readExpression 20 = .ok (.aload_n 0, 1) := by decide +kernel
theorem dX12_readExpression_21 : decode cX12_readExpression 21 = .ok (.getfield 193, 3) := by decide +kernel
theorem dX12_readExpression_24 : decode cX12_readExpression 24 = .ok (.ifCond .ne 52, 3) := by decide +kernel
theorem dX12_readExpression_76 : decode cX12_readExpression 76 = .ok (.aload_n 0, 1) := by decide +kernel
theorem dX12_readExpression_77 : decode cX12_readExpression 77 = .ok (.iconst 1, 1) := by decide +kernel
theorem dX12_readExpression_78 : decode cX12_readExpression 78 = .ok (.invokevirtual 315, 3) := by decide +kernel
theorem dX12_readExpression_81 : decode cX12_readExpression 81 = .ok (.return_, 1) := by decide +kernel
theorem dX12_readExpression_27 : decode cX12_readExpression 27 = .ok (.iload_n 2, 1) := by decide +kernel
theorem dX12_readExpression_28 : decode cX12_readExpression 28 = .ok (.iconst 4, 1) := by decide +kernel
theorem dX12_readExpression_29 : decode cX12_readExpression 29 = .ok (.if_icmp .eq 47, 3) := by decide +kernel
theorem dX12_readExpression_32 : decode cX12_readExpression 32 = .ok (.iload_n 2, 1) := by decide +kernel
theorem dX12_readExpression_33 : decode cX12_readExpression 33 = .ok (.ifCond .ne 10, 3) := by decide +kernel
theorem dX12_readExpression_43 : decode cX12_readExpression 43 = .ok (.iload_n 2, 1) := by decide +kernel
theorem dX12_readExpression_44 : decode cX12_readExpression 44 = .ok (.iconst 1, 1) := by decide +kernel
theorem dX12_readExpression_45 : decode cX12_readExpression 45 = .ok (.if_icmp .ne 10, 3) := by decide +kernel
theorem dX12_readExpression_55 : decode cX12_readExpression 55 = .ok (.iload_n 2, 1) := by decide +kernel
theorem dX12_readExpression_56 : decode cX12_readExpression 56 = .ok (.iconst 3, 1) := by decide +kernel
theorem dX12_readExpression_57 : decode cX12_readExpression 57 = .ok (.if_icmp .ne 11, 3) := by decide +kernel
theorem dX12_readExpression_68 : decode cX12_readExpression 68 = .ok (.aload_n 0, 1) := by decide +kernel
theorem dX12_readExpression_69 : decode cX12_readExpression 69 = .ok (.invokevirtual 336, 3) := by decide +kernel
theorem dX12_readExpression_72 : decode cX12_readExpression 72 = .ok (.istore_n 2, 1) := by decide +kernel
theorem dX12_readExpression_73 : decode cX12_readExpression 73 = .ok (.goto (-53), 3) := by decide +kernel
theorem dX12_readExpression_60 : decode cX12_readExpression 60 = .ok (.aload_n 0, 1) := by decide +kernel
theorem dX12_readExpression_61 : decode cX12_readExpression 61 = .ok (.iload_n 1, 1) := by decide +kernel
theorem dX12_readExpression_62 : decode cX12_readExpression 62 = .ok (.invokevirtual 332, 3) := by decide +kernel
theorem dX12_readExpression_65 : decode cX12_readExpression 65 = .ok (.goto 7, 3) := by decide +kernel
theorem dX12_readExpression_48 : decode cX12_readExpression 48 = .ok (.aload_n 0, 1) := by decide +kernel
theorem dX12_readExpression_49 : decode cX12_readExpression 49 = .ok (.invokevirtual 312, 3) := by decide +kernel
theorem dX12_readExpression_52 : decode cX12_readExpression 52 = .ok (.goto 20, 3) := by decide +kernel
theorem dX12_readExpression_36 : decode cX12_readExpression 36 = .ok (.aload_n 0, 1) := by decide +kernel
theorem dX12_readExpression_37 : decode cX12_readExpression 37 = .ok (.invokevirtual 329, 3) := by decide +kernel
theorem dX12_readExpression_40 : decode cX12_readExpression 40 = .ok (.goto 32, 3) := by decide +kernel
theorem dX12_readExpression_18 : decode cX12_readExpression 18 = .ok (.iconst 1, 1) := by decide +kernel
theorem dX12_readExpression_14 : decode cX12_readExpression 14 = .ok (.iconst 0, 1) := by decide +kernel
theorem dX12_readExpression_15 : decode cX12_readExpression 15 = .ok (.goto 4, 3) := by decide +kernel
def ms_X12_isSmall : List (Nat × Nat) := []
def po_X12_isSmall (kp : Nat → Nat) (L : List Nat) (f0 : Nat → va_E) (u1 : Int32) : Option Value → (Nat → va_E) → Prop := fun v f => (∃ r : Int32, v = some (.int r) ∧ ((r.toInt = 1 ∧ 97 ≤ u1.toInt ∧ u1.toInt ≤ 122) ∨ (r.toInt = 0 ∧ (u1.toInt < 97 ∨ 122 < u1.toInt)))) ∧ FM kp L ms_X12_isSmall f0 f
set_option maxHeartbeats 4000000 in
set_option maxRecDepth 100000 in
theorem c_X12_isSmall (l : Launch) (G : va_G) (cI cJ cZ cD cR cT : ClassId) (kp : Nat → Nat) (L : List Nat) (f0 : Nat → va_E) (hTH : TH cI cJ cZ cD cR cT kp L f0) (sz : Nat) (u1 : Int32) : Met l yX12_isSmall (Cond.code yX12_isSmall cX12_isSmall 1 (some .boolean) :: wTab) ({ frames := 1, cells := 0, slots := 0, locals := 40 }) (va_Pc [.int u1] (PreW G (tys6 cI cJ cZ cD cR cT) (va_pl L f0) sz)) (QT (po_X12_isSmall kp L f0 u1) G cI cJ cZ cD cR cT (va_A (va_pl L f0) sz) kp L) 0 0 (va_A (va_pl L f0) sz) := by
  refine metT (by decide) (Nat.le_of_ble_eq_true rfl) hTH ?_
  intro p e s m below meth c A ls E hW hl
  obtain ⟨hx, hb, -, hml, hown, hts, -, -, -⟩ := id E
  have hF : FM kp L ms_X12_isSmall f0 f0 := FM.rf
  have hl : lv_has ls 1 [(0, .int u1)] := hl
  refine lv_iload_n hx hb dX12_isSmall_0 rfl (lv_at hl 0 rfl) ?_
  refine lv_bipush (v := 97) hx hb dX12_isSmall_1 (by decide) ?_
  refine q_icmp_lt (Y := 97) (tgt := 16) hx hb dX12_isSmall_3 (by decide) rfl rfl (fun c1 => ?_) (fun c1 => ?_)
  · refine lv_iconst (v := 0) hx hb dX12_isSmall_16 (by decide) ?_
    exact e_Z E hW rfl (by decide) ⟨⟨_, rfl, (by have hk : (0 : Int32).toInt = 0 := rfl; first | decide | omega)⟩, hF⟩ dX12_isSmall_17
  · refine lv_iload_n hx hb dX12_isSmall_6 rfl (lv_at hl 0 rfl) ?_
    refine lv_bipush (v := 122) hx hb dX12_isSmall_7 (by decide) ?_
    refine q_icmp_gt (Y := 122) (tgt := 16) hx hb dX12_isSmall_9 (by decide) rfl rfl (fun c2 => ?_) (fun c2 => ?_)
    · refine lv_iconst (v := 0) hx hb dX12_isSmall_16 (by decide) ?_
      exact e_Z E hW rfl (by decide) ⟨⟨_, rfl, (by have hk : (0 : Int32).toInt = 0 := rfl; first | decide | omega)⟩, hF⟩ dX12_isSmall_17
    · refine lv_iconst (v := 1) hx hb dX12_isSmall_12 (by decide) ?_
      refine lv_goto (tgt := 17) hx hb dX12_isSmall_13 (by decide) ?_
      exact e_Z E hW rfl (by decide) ⟨⟨_, rfl, (by have hk : (1 : Int32).toInt = 1 := rfl; first | decide | omega)⟩, hF⟩ dX12_isSmall_17
def ms_X12_isDigit : List (Nat × Nat) := []
def po_X12_isDigit (kp : Nat → Nat) (L : List Nat) (f0 : Nat → va_E) (u1 : Int32) : Option Value → (Nat → va_E) → Prop := fun v f => (∃ r : Int32, v = some (.int r) ∧ ((r.toInt = 1 ∧ 48 ≤ u1.toInt ∧ u1.toInt ≤ 57) ∨ (r.toInt = 0 ∧ (u1.toInt < 48 ∨ 57 < u1.toInt)))) ∧ FM kp L ms_X12_isDigit f0 f
set_option maxHeartbeats 4000000 in
set_option maxRecDepth 100000 in
theorem c_X12_isDigit (l : Launch) (G : va_G) (cI cJ cZ cD cR cT : ClassId) (kp : Nat → Nat) (L : List Nat) (f0 : Nat → va_E) (hTH : TH cI cJ cZ cD cR cT kp L f0) (sz : Nat) (u1 : Int32) : Met l yX12_isDigit (Cond.code yX12_isDigit cX12_isDigit 1 (some .boolean) :: wTab) ({ frames := 1, cells := 0, slots := 0, locals := 40 }) (va_Pc [.int u1] (PreW G (tys6 cI cJ cZ cD cR cT) (va_pl L f0) sz)) (QT (po_X12_isDigit kp L f0 u1) G cI cJ cZ cD cR cT (va_A (va_pl L f0) sz) kp L) 0 0 (va_A (va_pl L f0) sz) := by
  refine metT (by decide) (Nat.le_of_ble_eq_true rfl) hTH ?_
  intro p e s m below meth c A ls E hW hl
  obtain ⟨hx, hb, -, hml, hown, hts, -, -, -⟩ := id E
  have hF : FM kp L ms_X12_isDigit f0 f0 := FM.rf
  have hl : lv_has ls 1 [(0, .int u1)] := hl
  refine lv_iload_n hx hb dX12_isDigit_0 rfl (lv_at hl 0 rfl) ?_
  refine lv_bipush (v := 48) hx hb dX12_isDigit_1 (by decide) ?_
  refine q_icmp_lt (Y := 48) (tgt := 16) hx hb dX12_isDigit_3 (by decide) rfl rfl (fun c1 => ?_) (fun c1 => ?_)
  · refine lv_iconst (v := 0) hx hb dX12_isDigit_16 (by decide) ?_
    exact e_Z E hW rfl (by decide) ⟨⟨_, rfl, (by have hk : (0 : Int32).toInt = 0 := rfl; first | decide | omega)⟩, hF⟩ dX12_isDigit_17
  · refine lv_iload_n hx hb dX12_isDigit_6 rfl (lv_at hl 0 rfl) ?_
    refine lv_bipush (v := 57) hx hb dX12_isDigit_7 (by decide) ?_
    refine q_icmp_gt (Y := 57) (tgt := 16) hx hb dX12_isDigit_9 (by decide) rfl rfl (fun c2 => ?_) (fun c2 => ?_)
    · refine lv_iconst (v := 0) hx hb dX12_isDigit_16 (by decide) ?_
      exact e_Z E hW rfl (by decide) ⟨⟨_, rfl, (by have hk : (0 : Int32).toInt = 0 := rfl; first | decide | omega)⟩, hF⟩ dX12_isDigit_17
    · refine lv_iconst (v := 1) hx hb dX12_isDigit_12 (by decide) ?_
      refine lv_goto (tgt := 17) hx hb dX12_isDigit_13 (by decide) ?_
      exact e_Z E hW rfl (by decide) ⟨⟨_, rfl, (by have hk : (1 : Int32).toInt = 1 := rfl; first | decide | omega)⟩, hF⟩ dX12_isDigit_17
def ms_X12_isWord : List (Nat × Nat) := []
def po_X12_isWord (kp : Nat → Nat) (L : List Nat) (f0 : Nat → va_E) (h0 : Nat) (u1 : Int64) : Option Value → (Nat → va_E) → Prop := fun v f => (∃ r : Int32, v = some (.int r) ∧ ((r.toInt = 1 ∧ (oI (f0 h0) 15).toInt = 1 ∧ (oJ (f0 h0) 16).toInt = u1.toInt) ∨ r.toInt = 0)) ∧ FM kp L ms_X12_isWord f0 f
set_option maxHeartbeats 4000000 in
set_option maxRecDepth 100000 in
theorem c_X12_isWord (l : Launch) (G : va_G) (cI cJ cZ cD cR cT : ClassId) (kp : Nat → Nat) (L : List Nat) (f0 : Nat → va_E) (hTH : TH cI cJ cZ cD cR cT kp L f0) (sz : Nat) (h0 : Nat) (u1 : Int64) (rh0 : RK kp L h0 12) (pu1 : (294 : Int) ≤ u1.toInt ∧ u1.toInt ≤ 659105125) : Met l yX12_isWord (Cond.code yX12_isWord cX12_isWord 3 (some .boolean) :: wTab) ({ frames := 1, cells := 0, slots := 0, locals := 40 }) (va_Pc [.ref h0, .long u1] (PreW G (tys6 cI cJ cZ cD cR cT) (va_pl L f0) sz)) (QT (po_X12_isWord kp L f0 h0 u1) G cI cJ cZ cD cR cT (va_A (va_pl L f0) sz) kp L) 0 0 (va_A (va_pl L f0) sz) := by
  refine metT (by decide) (Nat.le_of_ble_eq_true rfl) hTH ?_
  intro p e s m below meth c A ls E hW hl
  obtain ⟨hx, hb, -, hml, hown, hts, -, -, -⟩ := id E
  have hF : FM kp L ms_X12_isWord f0 f0 := FM.rf
  have hl : lv_has ls 3 [(0, .ref h0), (1, .long u1)] := hl
  obtain ⟨pR, mR⟩ : ∃ x : Nat, oR (f0 h0) 2 = x := ⟨_, rfl⟩
  have rR : RK kp L pR 822 := by rw [← mR]; exact th_ref hTH rh0 (by decide) (by decide) rfl
  refine lv_aload_n hx hb dX12_isWord_0 rfl (lv_at hl 0 rfl) ?_
  refine fg_RX12_212 E hW rh0 dX12_isWord_1 (fun y1 m2 b3 => ?_)
  refine lv_iconst (v := 1) hx hb dX12_isWord_4 (by decide) ?_
  refine q_icmp_ne (Y := 1) (tgt := 21) hx hb dX12_isWord_5 (by decide) rfl rfl (fun c4 => ?_) (fun c4 => ?_)
  · refine lv_iconst (v := 0) hx hb dX12_isWord_21 (by decide) ?_
    exact e_Z E hW rfl (by decide) ⟨⟨_, rfl, (by have hk : (0 : Int32).toInt = 0 := rfl; rw [m2]; first | decide | omega)⟩, hF⟩ dX12_isWord_22
  · refine lv_aload_n hx hb dX12_isWord_8 rfl (lv_at hl 0 rfl) ?_
    refine fg_RX12_202 E hW rh0 dX12_isWord_9 (fun y5 m6 => ?_)
    refine lv_lload_n hx hb dX12_isWord_12 rfl (lv_at hl 1 rfl) ?_
    refine q_lcmp_ne (tgt := 21) hx hb dX12_isWord_13 dX12_isWord_14 (by decide) rfl rfl (fun c7 => ?_) (fun c7 => ?_)
    · refine lv_iconst (v := 0) hx hb dX12_isWord_21 (by decide) ?_
      exact e_Z E hW rfl (by decide) ⟨⟨_, rfl, (by have hk : (0 : Int32).toInt = 0 := rfl; rw [m2, m6]; first | decide | omega)⟩, hF⟩ dX12_isWord_22
    · refine lv_iconst (v := 1) hx hb dX12_isWord_17 (by decide) ?_
      refine lv_goto (tgt := 22) hx hb dX12_isWord_18 (by decide) ?_
      exact e_Z E hW rfl (by decide) ⟨⟨_, rfl, (by have hk : (1 : Int32).toInt = 1 := rfl; rw [m2, m6]; first | decide | omega)⟩, hF⟩ dX12_isWord_22
def ms_X12_isSign : List (Nat × Nat) := []
def po_X12_isSign (kp : Nat → Nat) (L : List Nat) (f0 : Nat → va_E) (h0 : Nat) (u1 : Int32) : Option Value → (Nat → va_E) → Prop := fun v f => (∃ r : Int32, v = some (.int r) ∧ ((r.toInt = 1 ∧ (oI (f0 h0) 15).toInt = 3) ∨ r.toInt = 0)) ∧ FM kp L ms_X12_isSign f0 f
set_option maxHeartbeats 4000000 in
set_option maxRecDepth 100000 in
theorem c_X12_isSign (l : Launch) (G : va_G) (cI cJ cZ cD cR cT : ClassId) (kp : Nat → Nat) (L : List Nat) (f0 : Nat → va_E) (hTH : TH cI cJ cZ cD cR cT kp L f0) (sz : Nat) (h0 : Nat) (u1 : Int32) (rh0 : RK kp L h0 12) (pu1 : (40 : Int) ≤ u1.toInt ∧ u1.toInt ≤ 93) : Met l yX12_isSign (Cond.code yX12_isSign cX12_isSign 2 (some .boolean) :: wTab) ({ frames := 1, cells := 0, slots := 0, locals := 40 }) (va_Pc [.ref h0, .int u1] (PreW G (tys6 cI cJ cZ cD cR cT) (va_pl L f0) sz)) (QT (po_X12_isSign kp L f0 h0 u1) G cI cJ cZ cD cR cT (va_A (va_pl L f0) sz) kp L) 0 0 (va_A (va_pl L f0) sz) := by
  refine metT (by decide) (Nat.le_of_ble_eq_true rfl) hTH ?_
  intro p e s m below meth c A ls E hW hl
  obtain ⟨hx, hb, -, hml, hown, hts, -, -, -⟩ := id E
  have hF : FM kp L ms_X12_isSign f0 f0 := FM.rf
  have hl : lv_has ls 2 [(0, .ref h0), (1, .int u1)] := hl
  obtain ⟨pR, mR⟩ : ∃ x : Nat, oR (f0 h0) 2 = x := ⟨_, rfl⟩
  have rR : RK kp L pR 822 := by rw [← mR]; exact th_ref hTH rh0 (by decide) (by decide) rfl
  refine lv_aload_n hx hb dX12_isSign_0 rfl (lv_at hl 0 rfl) ?_
  refine fg_RX12_212 E hW rh0 dX12_isSign_1 (fun y1 m2 b3 => ?_)
  refine lv_iconst (v := 3) hx hb dX12_isSign_4 (by decide) ?_
  refine q_icmp_ne (Y := 3) (tgt := 22) hx hb dX12_isSign_5 (by decide) rfl rfl (fun c4 => ?_) (fun c4 => ?_)
  · refine lv_iconst (v := 0) hx hb dX12_isSign_22 (by decide) ?_
    exact e_Z E hW rfl (by decide) ⟨⟨_, rfl, (by have hk : (0 : Int32).toInt = 0 := rfl; rw [m2]; first | decide | omega)⟩, hF⟩ dX12_isSign_23
  · refine lv_aload_n hx hb dX12_isSign_8 rfl (lv_at hl 0 rfl) ?_
    refine fg_RX12_202 E hW rh0 dX12_isSign_9 (fun y5 m6 => ?_)
    refine lv_iload_n hx hb dX12_isSign_12 rfl (lv_at hl 1 rfl) ?_
    refine q_i2l hx hb dX12_isSign_13 rfl (fun x7 h8 => ?_)
    refine q_lcmp_ne (tgt := 22) hx hb dX12_isSign_14 dX12_isSign_15 (by decide) rfl rfl (fun c9 => ?_) (fun c9 => ?_)
    · refine lv_iconst (v := 0) hx hb dX12_isSign_22 (by decide) ?_
      exact e_Z E hW rfl (by decide) ⟨⟨_, rfl, (by have hk : (0 : Int32).toInt = 0 := rfl; rw [m2]; first | decide | omega)⟩, hF⟩ dX12_isSign_23
    · refine lv_iconst (v := 1) hx hb dX12_isSign_18 (by decide) ?_
      refine lv_goto (tgt := 23) hx hb dX12_isSign_19 (by decide) ?_
      exact e_Z E hW rfl (by decide) ⟨⟨_, rfl, (by have hk : (1 : Int32).toInt = 1 := rfl; rw [m2]; first | decide | omega)⟩, hF⟩ dX12_isSign_23
def ms_X12_next : List (Nat × Nat) := [(12, 13), (12, 14), (12, 15), (12, 16)]
def po_X12_next (kp : Nat → Nat) (L : List Nat) (f0 : Nat → va_E) (h0 : Nat) : Option Value → (Nat → va_E) → Prop := fun v f => v = none ∧ FM kp L ms_X12_next f0 f ∧ ((oI (f h0) 13).toInt ≤ (oI (f h0) 14).toInt ∧ (oI (f h0) 14).toInt ≤ (oI (f0 h0) 12).toInt ∧ ((oI (f h0) 15).toInt = 0 ∨ (oI (f h0) 13).toInt < (oI (f h0) 14).toInt) ∧ (¬ (oI (f h0) 15).toInt = 1 ∨ (oJ (f h0) 16).toInt ≤ 26 ∨ (oI (f h0) 13).toInt + 2 ≤ (oI (f h0) 14).toInt) ∧ (oI (f0 h0) 14).toInt ≤ (oI (f h0) 13).toInt)
set_option maxHeartbeats 4000000 in
set_option maxRecDepth 100000 in
theorem c_X12_next (l : Launch) (G : va_G) (cI cJ cZ cD cR cT : ClassId) (kp : Nat → Nat) (L : List Nat) (f0 : Nat → va_E) (hTH : TH cI cJ cZ cD cR cT kp L f0) (sz : Nat) (h0 : Nat) (rh0 : RK kp L h0 12) (hq : (oI (f0 h0) 14).toInt ≤ (oI (f0 h0) 12).toInt) : Met l yX12_next (Cond.code yX12_next cX12_next 1 none :: wTab) ({ frames := 2, cells := 0, slots := 0, locals := 60 }) (va_Pc [.ref h0] (PreW G (tys6 cI cJ cZ cD cR cT) (va_pl L f0) sz)) (QT (po_X12_next kp L f0 h0) G cI cJ cZ cD cR cT (va_A (va_pl L f0) sz) kp L) 0 0 (va_A (va_pl L f0) sz) := by
  refine metT (by decide) (Nat.le_of_ble_eq_true rfl) hTH ?_
  intro p e s m below meth c A ls E hW hl
  obtain ⟨hx, hb, -, hml, hown, hts, -, -, -⟩ := id E
  have hF : FM kp L ms_X12_next f0 f0 := FM.rf
  have hl : lv_has ls 1 [(0, .ref h0)] := hl
  obtain ⟨pF12, mF12⟩ : ∃ x : Int32, oI (f0 h0) 12 = x := ⟨_, rfl⟩
  have bF12 : (0 : Int) ≤ pF12.toInt ∧ pF12.toInt ≤ 400 := by rw [← mF12]; exact th_iv hW rh0 (by decide) (by decide) rfl
  obtain ⟨pF14, mF14⟩ : ∃ x : Int32, oI (f0 h0) 14 = x := ⟨_, rfl⟩
  have bF14 : (0 : Int) ≤ pF14.toInt ∧ pF14.toInt ≤ 400 := by rw [← mF14]; exact th_iv hW rh0 (by decide) (by decide) rfl
  obtain ⟨pW, mW⟩ : ∃ x : Int64, oJ (f0 h0) 16 = x := ⟨_, rfl⟩
  simp only [mF12, mF14, mW] at hq
  obtain ⟨pR, mR⟩ : ∃ x : Nat, oR (f0 h0) 2 = x := ⟨_, rfl⟩
  have rR : RK kp L pR 822 := by rw [← mR]; exact th_ref hTH rh0 (by decide) (by decide) rfl
  refine lv_aload_n hx hb dX12_next_0 rfl (lv_at hl 0 rfl) ?_
  refine lv_aload_n hx hb dX12_next_1 rfl (lv_at hl 0 rfl) ?_
  refine fg_RX12_190 E hW rh0 dX12_next_2 (fun y1 m2 b3 => ?_)
  obtain rfl : pF14 = y1 := (mF14).symm.trans m2
  refine fp_RX12_199 E hW rh0 (by omega) dX12_next_5 (fun f4 H locs e5 n6 g7 hW => ?_)
  have hF := FM.tr hF g7 rfl
  have L54 : ∀ (n : Nat), ∀ (f44 : Nat → va_E) (y49 : Int32) (m45 : oR (f44 h0) 2 = pR) (m46 : oI (f44 h0) 12 = pF12) (m47 : oI (f44 h0) 14 = pF14) (m48 : oJ (f44 h0) 16 = pW) (m50 : oI (f44 h0) 13 = y49) (b51 : (0 : Int) ≤ y49.toInt ∧ y49.toInt ≤ 400) (v52 : pF14.toInt ≤ y49.toInt) (v53 : y49.toInt ≤ pF12.toInt) (hm : (401 : Int) - y49.toInt ≤ n) (H : Heap) (locs : List Loc) (ls : Array Slot), WS G cI cJ cZ cD cR cT A kp L f44 s H locs → FM kp L ms_X12_next f0 f44 → lv_has ls 1 [(0, .ref h0)] → W p l e ({ frames := 2, cells := 0, slots := 0, locals := 60 }) s m ([.ref h0] : List Value).toArray below meth c H locs 0 0 (MQ below (QT (po_X12_next kp L f0 h0) G cI cJ cZ cD cR cT A kp L) ([.ref h0] : List Value).toArray s 0 0 A) (F0 m 8 ls []) := by
    intro n
    induction n with
    | zero =>
      intro f44 y49 m45 m46 m47 m48 m50 b51 v52 v53 hm H locs ls hW hF hl
      have hz := i32_b y49
      exfalso; omega
    | succ n ih =>
      intro f44 y49 m45 m46 m47 m48 m50 b51 v52 v53 hm H locs ls hW hF hl
      have ih8 := ih
      refine lv_aload_n hx hb dX12_next_8 rfl (lv_at hl 0 rfl) ?_
      refine fg_RX12_199 E hW rh0 dX12_next_9 (fun y55 m56 b57 => ?_)
      obtain rfl : y49 = y55 := (m50).symm.trans m56
      refine lv_aload_n hx hb dX12_next_12 rfl (lv_at hl 0 rfl) ?_
      refine fg_RX12_174 E hW rh0 dX12_next_13 (fun y58 m59 b60 => ?_)
      obtain rfl : pF12 = y58 := (m46).symm.trans m59
      have J80 : ∀ (H : Heap) (locs : List Loc) (ls : Array Slot), WS G cI cJ cZ cD cR cT A kp L f44 s H locs → FM kp L ms_X12_next f0 f44 → lv_has ls 1 [(0, .ref h0)] → W p l e ({ frames := 2, cells := 0, slots := 0, locals := 60 }) s m ([.ref h0] : List Value).toArray below meth c H locs 0 0 (MQ below (QT (po_X12_next kp L f0 h0) G cI cJ cZ cD cR cT A kp L) ([.ref h0] : List Value).toArray s 0 0 A) (F0 m 46 ls []) := by
        intro  H locs ls hW hF hl
        refine lv_aload_n hx hb dX12_next_46 rfl (lv_at hl 0 rfl) ?_
        refine lv_aload_n hx hb dX12_next_47 rfl (lv_at hl 0 rfl) ?_
        refine fg_RX12_199 E hW rh0 dX12_next_48 (fun y81 m82 b83 => ?_)
        obtain rfl : y49 = y81 := (m56).symm.trans m82
        refine fp_RX12_190 E hW rh0 (by omega) dX12_next_51 (fun f84 H locs e85 n86 g87 hW => ?_)
        have hF := FM.tr hF g87 rfl
        refine lv_aload_n hx hb dX12_next_54 rfl (lv_at hl 0 rfl) ?_
        refine lv_lconst (v := 0) hx hb dX12_next_55 (by decide) ?_
        refine fp_RX12_202 E hW rh0 dX12_next_56 (fun f88 H locs e89 n90 g91 hW => ?_)
        have hF := FM.tr hF g91 rfl
        refine lv_aload_n hx hb dX12_next_59 rfl (lv_at hl 0 rfl) ?_
        refine lv_aload_n hx hb dX12_next_60 rfl (lv_at hl 0 rfl) ?_
        refine fg_RX12_199 E hW rh0 dX12_next_61 (fun y92 m93 b94 => ?_)
        obtain rfl : y49 = y92 := (((fm_I g91 rh0 rfl).trans ((fm_I g87 rh0 rfl).trans m82))).symm.trans m93
        refine lv_aload_n hx hb dX12_next_64 rfl (lv_at hl 0 rfl) ?_
        refine fg_RX12_174 E hW rh0 dX12_next_65 (fun y95 m96 b97 => ?_)
        obtain rfl : pF12 = y95 := (((fm_I g91 rh0 rfl).trans ((fm_I g87 rh0 rfl).trans m59))).symm.trans m96
        refine q_icmp_ne (tgt := 75) hx hb dX12_next_68 (by decide) rfl rfl (fun c98 => ?_) (fun c98 => ?_)
        · refine lv_aload_n hx hb dX12_next_75 rfl (lv_at hl 0 rfl) ?_
          refine fg_RX12_32 E hW rh0 dX12_next_76 (fun a99 m100 r101 => ?_)
          refine lv_aload_n hx hb dX12_next_79 rfl (lv_at hl 0 rfl) ?_
          refine fg_RX12_199 E hW rh0 dX12_next_80 (fun y102 m103 b104 => ?_)
          obtain rfl : y49 = y102 := (m93).symm.trans m103
          refine gl_831 E hW r101 ⟨by omega, by omega⟩ dX12_next_83 (fun y105 m106 => ?_)
          refine t_callS (As := [.int y105]) (rest := [.ref h0]) E hW (c_X12_isSmall l G cI cJ cZ cD cR cT kp L f88 hW.2.2.2 _ y105) wk_X12_isSmall tw_1777 rfl ⟨Nat.le_of_ble_eq_true rfl, Nat.le_of_ble_eq_true rfl⟩ ⟨rfl, rfl⟩ hl.1 rfl (Nat.le_of_ble_eq_true rfl) dX12_next_84 ⟨Nat.le_of_ble_eq_true rfl, Nat.le_of_ble_eq_true rfl⟩ (fun v108 f109 H locs q110 hW => ?_)
          obtain ⟨⟨x112, rfl, p113⟩, g111⟩ := q110
          have hF := FM.tr hF g111 rfl
          refine q_if_eq (tgt := 94) hx hb dX12_next_87 (by decide) rfl (fun c114 => ?_) (fun c114 => ?_)
          · have q115 : (y105.toInt < 97 ∨ 122 < y105.toInt) := by omega
            clear p113
            refine lv_aload_n hx hb dX12_next_94 rfl (lv_at hl 0 rfl) ?_
            refine fg_RX12_32 E hW rh0 dX12_next_95 (fun a116 m117 r118 => ?_)
            obtain rfl : a99 = a116 := (((fm_R g111 rh0 rfl).trans m100)).symm.trans m117
            refine lv_aload_n hx hb dX12_next_98 rfl (lv_at hl 0 rfl) ?_
            refine fg_RX12_199 E hW rh0 dX12_next_99 (fun y119 m120 b121 => ?_)
            obtain rfl : y49 = y119 := (((fm_I g111 rh0 rfl).trans m103)).symm.trans m120
            refine gl_831 E hW r101 ⟨by omega, by omega⟩ dX12_next_102 (fun y122 m123 => ?_)
            obtain rfl : y105 = y122 := (((congrArg (fun z => aI z (y49 : Int32).toNatClampNeg) (fm_A g111 r101 (by decide) rfl)).trans m106)).symm.trans m123
            refine t_callS (As := [.int y105]) (rest := [.ref h0]) E hW (c_X12_isDigit l G cI cJ cZ cD cR cT kp L f109 hW.2.2.2 _ y105) wk_X12_isDigit tw_1780 rfl ⟨Nat.le_of_ble_eq_true rfl, Nat.le_of_ble_eq_true rfl⟩ ⟨rfl, rfl⟩ hl.1 rfl (Nat.le_of_ble_eq_true rfl) dX12_next_103 ⟨Nat.le_of_ble_eq_true rfl, Nat.le_of_ble_eq_true rfl⟩ (fun v125 f126 H locs q127 hW => ?_)
            obtain ⟨⟨x129, rfl, p130⟩, g128⟩ := q127
            have hF := FM.tr hF g128 rfl
            refine q_if_eq (tgt := 113) hx hb dX12_next_106 (by decide) rfl (fun c131 => ?_) (fun c131 => ?_)
            · have q132 : (y105.toInt < 48 ∨ 57 < y105.toInt) := by omega
              clear p130
              refine lv_iconst (v := 3) hx hb dX12_next_113 (by decide) ?_
              refine fp_RX12_212 E hW rh0 (by decide) dX12_next_114 (fun f133 H locs e134 n135 g136 hW => ?_)
              have m137 : aI (f133 a99) (y49 : Int32).toNatClampNeg = y105 := ((congrArg (fun z => aI z (y49 : Int32).toNatClampNeg) (fm_A g136 r101 (by decide) rfl)).trans ((congrArg (fun z => aI z (y49 : Int32).toNatClampNeg) (fm_A g128 r101 (by decide) rfl)).trans m123))
              have hF := FM.tr hF g136 rfl
              refine lv_aload_n hx hb dX12_next_117 rfl (lv_at hl 0 rfl) ?_
              refine fg_RX12_212 E hW rh0 dX12_next_118 (fun y138 m139 b140 => ?_)
              obtain rfl : 3 = y138 := (e134).symm.trans m139
              refine lv_iconst (v := 3) hx hb dX12_next_121 (by decide) ?_
              refine q_icmp_ne (X := 3) (Y := 3) (tgt := 149) hx hb dX12_next_122 (by decide) rfl rfl (fun c => absurd c (by decide)) (fun _ => ?_)
              refine lv_aload_n hx hb dX12_next_125 rfl (lv_at hl 0 rfl) ?_
              refine lv_aload_n hx hb dX12_next_126 rfl (lv_at hl 0 rfl) ?_
              refine fg_RX12_32 E hW rh0 dX12_next_127 (fun a141 m142 r143 => ?_)
              obtain rfl : a99 = a141 := (((fm_R g136 rh0 rfl).trans ((fm_R g128 rh0 rfl).trans m117))).symm.trans m142
              refine lv_aload_n hx hb dX12_next_130 rfl (lv_at hl 0 rfl) ?_
              refine fg_RX12_199 E hW rh0 dX12_next_131 (fun y144 m145 b146 => ?_)
              obtain rfl : y49 = y144 := (((fm_I g136 rh0 rfl).trans ((fm_I g128 rh0 rfl).trans m120))).symm.trans m145
              refine gl_831 E hW r101 ⟨by omega, by omega⟩ dX12_next_134 (fun y147 m148 => ?_)
              obtain rfl : y105 = y147 := (m137).symm.trans m148
              refine q_i2l hx hb dX12_next_135 rfl (fun x150 h151 => ?_)
              have hb152 : -2147483648 ≤ x150.toInt ∧ x150.toInt ≤ 2147483647 := by have := i32_b y105; omega
              refine fp_RX12_202 E hW rh0 dX12_next_136 (fun f153 H locs e154 n155 g156 hW => ?_)
              have hF := FM.tr hF g156 rfl
              refine lv_aload_n hx hb dX12_next_139 rfl (lv_at hl 0 rfl) ?_
              refine lv_dup hx hb dX12_next_140 rfl ?_
              refine fg_RX12_190 E hW rh0 dX12_next_141 (fun y157 m158 b159 => ?_)
              obtain rfl : y49 = y157 := (((fm_I g156 rh0 rfl).trans ((fm_I g136 rh0 rfl).trans ((fm_I g128 rh0 rfl).trans ((fm_I g111 rh0 rfl).trans ((fm_I g91 rh0 rfl).trans e85)))))).symm.trans m158
              refine lv_iconst (v := 1) hx hb dX12_next_144 (by decide) ?_
              refine q_iadd (Y := 1) hx hb dX12_next_145 rfl rfl (by omega) (fun x160 h161 => ?_)
              refine fp_RX12_190 E hW rh0 (by omega) dX12_next_146 (fun f162 H locs e163 n164 g165 hW => ?_)
              have m166 : oR (f162 h0) 2 = pR := ((fm_R g165 rh0 rfl).trans ((fm_R g156 rh0 rfl).trans ((fm_R g136 rh0 rfl).trans ((fm_R g128 rh0 rfl).trans ((fm_R g111 rh0 rfl).trans ((fm_R g91 rh0 rfl).trans ((fm_R g87 rh0 rfl).trans m45)))))))
              have m167 : aI (f162 a99) (y49 : Int32).toNatClampNeg = y105 := ((congrArg (fun z => aI z (y49 : Int32).toNatClampNeg) (fm_A g165 r101 (by decide) rfl)).trans ((congrArg (fun z => aI z (y49 : Int32).toNatClampNeg) (fm_A g156 r101 (by decide) rfl)).trans m148))
              have hF := FM.tr hF g165 rfl
              refine lv_aload_n hx hb dX12_next_149 rfl (lv_at hl 0 rfl) ?_
              refine fg_RX12_212 E hW rh0 dX12_next_150 (fun y168 m169 b170 => ?_)
              obtain rfl : 3 = y168 := (((fm_I g165 rh0 rfl).trans ((fm_I g156 rh0 rfl).trans m139))).symm.trans m169
              refine lv_iconst (v := 1) hx hb dX12_next_153 (by decide) ?_
              refine q_icmp_ne (X := 3) (Y := 1) (tgt := 243) hx hb dX12_next_154 (by decide) rfl rfl (fun _ => ?_) (fun c => absurd c (by decide))
              refine lv_aload_n hx hb dX12_next_243 rfl (lv_at hl 0 rfl) ?_
              refine fg_RX12_212 E hW rh0 dX12_next_244 (fun y171 m172 b173 => ?_)
              obtain rfl : 3 = y171 := (m169).symm.trans m172
              refine lv_iconst (v := 2) hx hb dX12_next_247 (by decide) ?_
              refine q_icmp_ne (X := 3) (Y := 2) (tgt := 335) hx hb dX12_next_248 (by decide) rfl rfl (fun _ => ?_) (fun c => absurd c (by decide))
              exact e_V E hW rfl ⟨rfl, hF, (by have hk15 : (3 : Int32).toInt = 3 := rfl; simp only [((fm_I g165 rh0 rfl).trans ((fm_I g156 rh0 rfl).trans ((fm_I g136 rh0 rfl).trans ((fm_I g128 rh0 rfl).trans ((fm_I g111 rh0 rfl).trans m96))))), mF12, ((fm_I g165 rh0 rfl).trans ((fm_I g156 rh0 rfl).trans m145)), e163, mF14, m172, ((fm_J g165 rh0 rfl).trans e154), mW, and_true, true_and, true_or, or_true, false_or, or_false] <;> omega)⟩ dX12_next_335
            · have q174 : 48 ≤ y105.toInt ∧ y105.toInt ≤ 57 := by omega
              clear p130
              refine lv_iconst (v := 2) hx hb dX12_next_109 (by decide) ?_
              refine lv_goto (tgt := 114) hx hb dX12_next_110 (by decide) ?_
              refine fp_RX12_212 E hW rh0 (by decide) dX12_next_114 (fun f175 H locs e176 n177 g178 hW => ?_)
              have m179 : aI (f175 a99) (y49 : Int32).toNatClampNeg = y105 := ((congrArg (fun z => aI z (y49 : Int32).toNatClampNeg) (fm_A g178 r101 (by decide) rfl)).trans ((congrArg (fun z => aI z (y49 : Int32).toNatClampNeg) (fm_A g128 r101 (by decide) rfl)).trans m123))
              have hF := FM.tr hF g178 rfl
              refine lv_aload_n hx hb dX12_next_117 rfl (lv_at hl 0 rfl) ?_
              refine fg_RX12_212 E hW rh0 dX12_next_118 (fun y180 m181 b182 => ?_)
              obtain rfl : 2 = y180 := (e176).symm.trans m181
              refine lv_iconst (v := 3) hx hb dX12_next_121 (by decide) ?_
              refine q_icmp_ne (X := 2) (Y := 3) (tgt := 149) hx hb dX12_next_122 (by decide) rfl rfl (fun _ => ?_) (fun c => absurd c (by decide))
              refine lv_aload_n hx hb dX12_next_149 rfl (lv_at hl 0 rfl) ?_
              refine fg_RX12_212 E hW rh0 dX12_next_150 (fun y183 m184 b185 => ?_)
              obtain rfl : 2 = y183 := (m181).symm.trans m184
              refine lv_iconst (v := 1) hx hb dX12_next_153 (by decide) ?_
              refine q_icmp_ne (X := 2) (Y := 1) (tgt := 243) hx hb dX12_next_154 (by decide) rfl rfl (fun _ => ?_) (fun c => absurd c (by decide))
              refine lv_aload_n hx hb dX12_next_243 rfl (lv_at hl 0 rfl) ?_
              refine fg_RX12_212 E hW rh0 dX12_next_244 (fun y186 m187 b188 => ?_)
              obtain rfl : 2 = y186 := (m184).symm.trans m187
              refine lv_iconst (v := 2) hx hb dX12_next_247 (by decide) ?_
              refine q_icmp_ne (X := 2) (Y := 2) (tgt := 335) hx hb dX12_next_248 (by decide) rfl rfl (fun c => absurd c (by decide)) (fun _ => ?_)
              refine lv_aload_n hx hb dX12_next_251 rfl (lv_at hl 0 rfl) ?_
              refine fg_RX12_190 E hW rh0 dX12_next_252 (fun y189 m190 b191 => ?_)
              obtain rfl : y49 = y189 := (((fm_I g178 rh0 rfl).trans ((fm_I g128 rh0 rfl).trans ((fm_I g111 rh0 rfl).trans ((fm_I g91 rh0 rfl).trans e85))))).symm.trans m190
              refine lv_aload_n hx hb dX12_next_255 rfl (lv_at hl 0 rfl) ?_
              refine fg_RX12_174 E hW rh0 dX12_next_256 (fun y192 m193 b194 => ?_)
              obtain rfl : pF12 = y192 := (((fm_I g178 rh0 rfl).trans ((fm_I g128 rh0 rfl).trans ((fm_I g111 rh0 rfl).trans m96)))).symm.trans m193
              refine q_icmp_ge (tgt := 335) hx hb dX12_next_259 (by decide) rfl rfl (fun c195 => ?_) (fun c195 => ?_)
              · exact e_V E hW rfl ⟨rfl, hF, (by have hk15 : (2 : Int32).toInt = 2 := rfl; have hkW : (0 : Int64).toInt = 0 := rfl; simp only [m193, mF12, ((fm_I g178 rh0 rfl).trans ((fm_I g128 rh0 rfl).trans m120)), m190, mF14, m187, ((fm_J g178 rh0 rfl).trans ((fm_J g128 rh0 rfl).trans ((fm_J g111 rh0 rfl).trans e89))), mW, and_true, true_and, true_or, or_true, false_or, or_false] <;> omega)⟩ dX12_next_335
              · refine lv_aload_n hx hb dX12_next_262 rfl (lv_at hl 0 rfl) ?_
                refine fg_RX12_32 E hW rh0 dX12_next_263 (fun a196 m197 r198 => ?_)
                obtain rfl : a99 = a196 := (((fm_R g178 rh0 rfl).trans ((fm_R g128 rh0 rfl).trans m117))).symm.trans m197
                refine lv_aload_n hx hb dX12_next_266 rfl (lv_at hl 0 rfl) ?_
                refine fg_RX12_190 E hW rh0 dX12_next_267 (fun y199 m200 b201 => ?_)
                obtain rfl : y49 = y199 := (m190).symm.trans m200
                refine gl_831 E hW r101 ⟨by omega, by omega⟩ dX12_next_270 (fun y202 m203 => ?_)
                obtain rfl : y105 = y202 := (m179).symm.trans m203
                refine t_callS (As := [.int y105]) (rest := []) E hW (c_X12_isDigit l G cI cJ cZ cD cR cT kp L f175 hW.2.2.2 _ y105) wk_X12_isDigit tw_1780 rfl ⟨Nat.le_of_ble_eq_true rfl, Nat.le_of_ble_eq_true rfl⟩ ⟨rfl, rfl⟩ hl.1 rfl (Nat.le_of_ble_eq_true rfl) dX12_next_271 ⟨Nat.le_of_ble_eq_true rfl, Nat.le_of_ble_eq_true rfl⟩ (fun v205 f206 H locs q207 hW => ?_)
                obtain ⟨⟨x209, rfl, p210⟩, g208⟩ := q207
                have hF := FM.tr hF g208 rfl
                refine q_if_eq (tgt := 335) hx hb dX12_next_274 (by decide) rfl (fun c211 => ?_) (fun c211 => ?_)
                · have q212 : (y105.toInt < 48 ∨ 57 < y105.toInt) := by omega
                  clear p210
                  exact e_V E hW rfl ⟨rfl, hF, (by have hk15 : (2 : Int32).toInt = 2 := rfl; have hkW : (0 : Int64).toInt = 0 := rfl; simp only [((fm_I g208 rh0 rfl).trans m193), mF12, ((fm_I g208 rh0 rfl).trans ((fm_I g178 rh0 rfl).trans ((fm_I g128 rh0 rfl).trans m120))), ((fm_I g208 rh0 rfl).trans m200), mF14, ((fm_I g208 rh0 rfl).trans m187), ((fm_J g208 rh0 rfl).trans ((fm_J g178 rh0 rfl).trans ((fm_J g128 rh0 rfl).trans ((fm_J g111 rh0 rfl).trans e89)))), mW, and_true, true_and, true_or, or_true, false_or, or_false] <;> omega)⟩ dX12_next_335
                · have q213 : 48 ≤ y105.toInt ∧ y105.toInt ≤ 57 := by omega
                  clear p210
                  refine lv_aload_n hx hb dX12_next_277 rfl (lv_at hl 0 rfl) ?_
                  refine lv_aload_n hx hb dX12_next_278 rfl (lv_at hl 0 rfl) ?_
                  refine fg_RX12_202 E hW rh0 dX12_next_279 (fun y214 m215 => ?_)
                  obtain rfl : 0 = y214 := (((fm_J g208 rh0 rfl).trans ((fm_J g178 rh0 rfl).trans ((fm_J g128 rh0 rfl).trans ((fm_J g111 rh0 rfl).trans e89))))).symm.trans m215
                  refine lv_ldc2 (v := 1000000) hx hb hown (hts _ tw_1570) dX12_next_282 ?_
                  refine q_lcmp_le (X := 0) (Y := 1000000) (tgt := 296) hx hb dX12_next_285 dX12_next_286 (by decide) rfl rfl (fun _ => ?_) (fun c => absurd c (by decide))
                  refine lv_aload_n hx hb dX12_next_296 rfl (lv_at hl 0 rfl) ?_
                  refine fg_RX12_202 E hW rh0 dX12_next_297 (fun y216 m217 => ?_)
                  obtain rfl : 0 = y216 := (m215).symm.trans m217
                  refine lv_ldc2 (v := 10) hx hb hown (hts _ tw_1786) dX12_next_300 ?_
                  refine q_lmul (X := 0) (Y := 10) hx hb dX12_next_303 rfl rfl (by decide) (fun x218 h219 => ?_)
                  obtain rfl : (0 : Int64) = x218 := Int64.toInt_inj.mp (Eq.trans (by decide) h219.symm)
                  refine lv_aload_n hx hb dX12_next_304 rfl (lv_at hl 0 rfl) ?_
                  refine fg_RX12_32 E hW rh0 dX12_next_305 (fun a220 m221 r222 => ?_)
                  obtain rfl : a99 = a220 := (((fm_R g208 rh0 rfl).trans m197)).symm.trans m221
                  refine lv_aload_n hx hb dX12_next_308 rfl (lv_at hl 0 rfl) ?_
                  refine fg_RX12_190 E hW rh0 dX12_next_309 (fun y223 m224 b225 => ?_)
                  obtain rfl : y49 = y223 := (((fm_I g208 rh0 rfl).trans m200)).symm.trans m224
                  refine gl_831 E hW r101 ⟨by omega, by omega⟩ dX12_next_312 (fun y226 m227 => ?_)
                  obtain rfl : y105 = y226 := (((congrArg (fun z => aI z (y49 : Int32).toNatClampNeg) (fm_A g208 r101 (by decide) rfl)).trans m203)).symm.trans m227
                  refine q_i2l hx hb dX12_next_313 rfl (fun x229 h230 => ?_)
                  refine q_ladd (X := 0) hx hb dX12_next_314 rfl rfl (by omega) (fun x231 h232 => ?_)
                  refine lv_ldc2 (v := 48) hx hb hown (hts _ tw_1787) dX12_next_315 ?_
                  refine q_lsub (Y := 48) hx hb dX12_next_318 rfl rfl (by omega) (fun x233 h234 => ?_)
                  refine fp_RX12_202 E hW rh0 dX12_next_319 (fun f235 H locs e236 n237 g238 hW => ?_)
                  have m239 : oR (f235 h0) 2 = pR := ((fm_R g238 rh0 rfl).trans ((fm_R g208 rh0 rfl).trans ((fm_R g178 rh0 rfl).trans ((fm_R g128 rh0 rfl).trans ((fm_R g111 rh0 rfl).trans ((fm_R g91 rh0 rfl).trans ((fm_R g87 rh0 rfl).trans m45)))))))
                  have hF := FM.tr hF g238 rfl
                  refine lv_aload_n hx hb dX12_next_322 rfl (lv_at hl 0 rfl) ?_
                  refine lv_dup hx hb dX12_next_323 rfl ?_
                  refine fg_RX12_190 E hW rh0 dX12_next_324 (fun y240 m241 b242 => ?_)
                  obtain rfl : y49 = y240 := (((fm_I g238 rh0 rfl).trans m224)).symm.trans m241
                  refine lv_iconst (v := 1) hx hb dX12_next_327 (by decide) ?_
                  refine q_iadd (Y := 1) hx hb dX12_next_328 rfl rfl (by omega) (fun x243 h244 => ?_)
                  refine fp_RX12_190 E hW rh0 (by omega) dX12_next_329 (fun f245 H locs e246 n247 g248 hW => ?_)
                  have m249 : aI (f245 a99) (y49 : Int32).toNatClampNeg = y105 := ((congrArg (fun z => aI z (y49 : Int32).toNatClampNeg) (fm_A g248 r101 (by decide) rfl)).trans ((congrArg (fun z => aI z (y49 : Int32).toNatClampNeg) (fm_A g238 r101 (by decide) rfl)).trans m227))
                  have hF := FM.tr hF g248 rfl
                  refine lv_goto (tgt := 243) hx hb dX12_next_332 (by decide) ?_
                  have L358 : ∀ (n : Nat), ∀ (f345 : Nat → va_E) (y351 : Int32) (y354 : Int64) (m346 : oR (f345 h0) 2 = pR) (m347 : oR (f345 h0) 11 = a99) (m348 : oI (f345 h0) 12 = pF12) (m349 : oI (f345 h0) 13 = y49) (m350 : oI (f345 h0) 15 = 2) (m352 : oI (f345 h0) 14 = y351) (b353 : (1 : Int) ≤ y351.toInt ∧ y351.toInt ≤ 400) (m355 : oJ (f345 h0) 16 = y354) (b356 : True) (v357 : y351.toInt ≤ pF12.toInt ∧ y49.toInt + 1 ≤ y351.toInt) (hm : (401 : Int) - y351.toInt ≤ n) (H : Heap) (locs : List Loc) (ls : Array Slot), WS G cI cJ cZ cD cR cT A kp L f345 s H locs → FM kp L ms_X12_next f0 f345 → lv_has ls 1 [(0, .ref h0)] → W p l e ({ frames := 2, cells := 0, slots := 0, locals := 60 }) s m ([.ref h0] : List Value).toArray below meth c H locs 0 0 (MQ below (QT (po_X12_next kp L f0 h0) G cI cJ cZ cD cR cT A kp L) ([.ref h0] : List Value).toArray s 0 0 A) (F0 m 243 ls []) := by
                    intro n
                    induction n with
                    | zero =>
                      intro f345 y351 y354 m346 m347 m348 m349 m350 m352 b353 m355 b356 v357 hm H locs ls hW hF hl
                      have hz := i32_b y351
                      exfalso; omega
                    | succ n ih =>
                      intro f345 y351 y354 m346 m347 m348 m349 m350 m352 b353 m355 b356 v357 hm H locs ls hW hF hl
                      clear c114 q115 c131 q174 c211 q213 h230 h232 h234 b356
                      have ih243 := ih
                      refine lv_aload_n hx hb dX12_next_243 rfl (lv_at hl 0 rfl) ?_
                      refine fg_RX12_212 E hW rh0 dX12_next_244 (fun y359 m360 b361 => ?_)
                      obtain rfl : 2 = y359 := (m350).symm.trans m360
                      refine lv_iconst (v := 2) hx hb dX12_next_247 (by decide) ?_
                      refine q_icmp_ne (X := 2) (Y := 2) (tgt := 335) hx hb dX12_next_248 (by decide) rfl rfl (fun c => absurd c (by decide)) (fun _ => ?_)
                      refine lv_aload_n hx hb dX12_next_251 rfl (lv_at hl 0 rfl) ?_
                      refine fg_RX12_190 E hW rh0 dX12_next_252 (fun y362 m363 b364 => ?_)
                      obtain rfl : y351 = y362 := (m352).symm.trans m363
                      refine lv_aload_n hx hb dX12_next_255 rfl (lv_at hl 0 rfl) ?_
                      refine fg_RX12_174 E hW rh0 dX12_next_256 (fun y365 m366 b367 => ?_)
                      obtain rfl : pF12 = y365 := (m348).symm.trans m366
                      refine q_icmp_ge (tgt := 335) hx hb dX12_next_259 (by decide) rfl rfl (fun c368 => ?_) (fun c368 => ?_)
                      · exact e_V E hW rfl ⟨rfl, hF, (by have hk15 : (2 : Int32).toInt = 2 := rfl; simp only [m366, mF12, m349, m363, mF14, m360, m355, mW, and_true, true_and, true_or, or_true, false_or, or_false] <;> omega)⟩ dX12_next_335
                      · refine lv_aload_n hx hb dX12_next_262 rfl (lv_at hl 0 rfl) ?_
                        refine fg_RX12_32 E hW rh0 dX12_next_263 (fun a369 m370 r371 => ?_)
                        obtain rfl : a99 = a369 := (m347).symm.trans m370
                        refine lv_aload_n hx hb dX12_next_266 rfl (lv_at hl 0 rfl) ?_
                        refine fg_RX12_190 E hW rh0 dX12_next_267 (fun y372 m373 b374 => ?_)
                        obtain rfl : y351 = y372 := (m363).symm.trans m373
                        refine gl_831 E hW r101 ⟨by omega, by omega⟩ dX12_next_270 (fun y375 m376 => ?_)
                        refine t_callS (As := [.int y375]) (rest := []) E hW (c_X12_isDigit l G cI cJ cZ cD cR cT kp L f345 hW.2.2.2 _ y375) wk_X12_isDigit tw_1780 rfl ⟨Nat.le_of_ble_eq_true rfl, Nat.le_of_ble_eq_true rfl⟩ ⟨rfl, rfl⟩ hl.1 rfl (Nat.le_of_ble_eq_true rfl) dX12_next_271 ⟨Nat.le_of_ble_eq_true rfl, Nat.le_of_ble_eq_true rfl⟩ (fun v378 f379 H locs q380 hW => ?_)
                        obtain ⟨⟨x382, rfl, p383⟩, g381⟩ := q380
                        have hF := FM.tr hF g381 rfl
                        refine q_if_eq (tgt := 335) hx hb dX12_next_274 (by decide) rfl (fun c384 => ?_) (fun c384 => ?_)
                        · have q385 : (y375.toInt < 48 ∨ 57 < y375.toInt) := by omega
                          clear p383
                          exact e_V E hW rfl ⟨rfl, hF, (by have hk15 : (2 : Int32).toInt = 2 := rfl; simp only [((fm_I g381 rh0 rfl).trans m366), mF12, ((fm_I g381 rh0 rfl).trans m349), ((fm_I g381 rh0 rfl).trans m373), mF14, ((fm_I g381 rh0 rfl).trans m360), ((fm_J g381 rh0 rfl).trans m355), mW, and_true, true_and, true_or, or_true, false_or, or_false] <;> omega)⟩ dX12_next_335
                        · have q386 : 48 ≤ y375.toInt ∧ y375.toInt ≤ 57 := by omega
                          clear p383
                          refine lv_aload_n hx hb dX12_next_277 rfl (lv_at hl 0 rfl) ?_
                          refine lv_aload_n hx hb dX12_next_278 rfl (lv_at hl 0 rfl) ?_
                          refine fg_RX12_202 E hW rh0 dX12_next_279 (fun y387 m388 => ?_)
                          obtain rfl : y354 = y387 := (((fm_J g381 rh0 rfl).trans m355)).symm.trans m388
                          refine lv_ldc2 (v := 1000000) hx hb hown (hts _ tw_1570) dX12_next_282 ?_
                          have J408 : ∀ (y407 : Int64) (H : Heap) (locs : List Loc) (ls : Array Slot), WS G cI cJ cZ cD cR cT A kp L f379 s H locs → FM kp L ms_X12_next f0 f379 → lv_has ls 1 [(0, .ref h0)] → W p l e ({ frames := 2, cells := 0, slots := 0, locals := 60 }) s m ([.ref h0] : List Value).toArray below meth c H locs 0 0 (MQ below (QT (po_X12_next kp L f0 h0) G cI cJ cZ cD cR cT A kp L) ([.ref h0] : List Value).toArray s 0 0 A) (F0 m 319 ls [.long y407, .ref h0]) := by
                            intro y407 H locs ls hW hF hl
                            clear c384
                            refine fp_RX12_202 E hW rh0 dX12_next_319 (fun f409 H locs e410 n411 g412 hW => ?_)
                            have m413 : aI (f409 a99) (y351 : Int32).toNatClampNeg = y375 := ((congrArg (fun z => aI z (y351 : Int32).toNatClampNeg) (fm_A g412 r101 (by decide) rfl)).trans ((congrArg (fun z => aI z (y351 : Int32).toNatClampNeg) (fm_A g381 r101 (by decide) rfl)).trans m376))
                            have hF := FM.tr hF g412 rfl
                            refine lv_aload_n hx hb dX12_next_322 rfl (lv_at hl 0 rfl) ?_
                            refine lv_dup hx hb dX12_next_323 rfl ?_
                            refine fg_RX12_190 E hW rh0 dX12_next_324 (fun y414 m415 b416 => ?_)
                            obtain rfl : y351 = y414 := (((fm_I g412 rh0 rfl).trans ((fm_I g381 rh0 rfl).trans m373))).symm.trans m415
                            refine lv_iconst (v := 1) hx hb dX12_next_327 (by decide) ?_
                            refine q_iadd (Y := 1) hx hb dX12_next_328 rfl rfl (by omega) (fun x417 h418 => ?_)
                            refine fp_RX12_190 E hW rh0 (by omega) dX12_next_329 (fun f419 H locs e420 n421 g422 hW => ?_)
                            have hF := FM.tr hF g422 rfl
                            refine lv_goto (tgt := 243) hx hb dX12_next_332 (by decide) ?_
                            exact ih243 f419 x417 y407 ((fm_R g422 rh0 rfl).trans ((fm_R g412 rh0 rfl).trans ((fm_R g381 rh0 rfl).trans m346))) ((fm_R g422 rh0 rfl).trans ((fm_R g412 rh0 rfl).trans ((fm_R g381 rh0 rfl).trans m370))) ((fm_I g422 rh0 rfl).trans ((fm_I g412 rh0 rfl).trans ((fm_I g381 rh0 rfl).trans m366))) ((fm_I g422 rh0 rfl).trans ((fm_I g412 rh0 rfl).trans ((fm_I g381 rh0 rfl).trans m349))) ((fm_I g422 rh0 rfl).trans ((fm_I g412 rh0 rfl).trans ((fm_I g381 rh0 rfl).trans m360))) e420 (by first | omega | decide | trivial) ((fm_J g422 rh0 rfl).trans e410) (by first | omega | decide | trivial) (by omega) (by omega) _ _ _ hW hF (lv_sub hl [0] rfl)
                          refine q_lcmp_le (Y := 1000000) (tgt := 296) hx hb dX12_next_285 dX12_next_286 (by decide) rfl rfl (fun c423 => ?_) (fun c423 => ?_)
                          · refine lv_aload_n hx hb dX12_next_296 rfl (lv_at hl 0 rfl) ?_
                            refine fg_RX12_202 E hW rh0 dX12_next_297 (fun y424 m425 => ?_)
                            obtain rfl : y354 = y424 := (m388).symm.trans m425
                            refine lv_ldc2 (v := 10) hx hb hown (hts _ tw_1786) dX12_next_300 ?_
                            refine u_lmul hx hb dX12_next_303 (fun x426 => ?_)
                            refine lv_aload_n hx hb dX12_next_304 rfl (lv_at hl 0 rfl) ?_
                            refine fg_RX12_32 E hW rh0 dX12_next_305 (fun a427 m428 r429 => ?_)
                            obtain rfl : a99 = a427 := (((fm_R g381 rh0 rfl).trans m370)).symm.trans m428
                            refine lv_aload_n hx hb dX12_next_308 rfl (lv_at hl 0 rfl) ?_
                            refine fg_RX12_190 E hW rh0 dX12_next_309 (fun y430 m431 b432 => ?_)
                            obtain rfl : y351 = y430 := (((fm_I g381 rh0 rfl).trans m373)).symm.trans m431
                            refine gl_831 E hW r101 ⟨by omega, by omega⟩ dX12_next_312 (fun y433 m434 => ?_)
                            obtain rfl : y375 = y433 := (((congrArg (fun z => aI z (y351 : Int32).toNatClampNeg) (fm_A g381 r101 (by decide) rfl)).trans m376)).symm.trans m434
                            refine q_i2l hx hb dX12_next_313 rfl (fun x436 h437 => ?_)
                            refine u_ladd hx hb dX12_next_314 (fun x438 => ?_)
                            refine lv_ldc2 (v := 48) hx hb hown (hts _ tw_1787) dX12_next_315 ?_
                            refine u_lsub hx hb dX12_next_318 (fun x439 => ?_)
                            exact J408 x439  _ _ _ hW hF (lv_sub hl [0] rfl)
                          · refine lv_aload_n hx hb dX12_next_289 rfl (lv_at hl 0 rfl) ?_
                            refine fg_RX12_202 E hW rh0 dX12_next_290 (fun y440 m441 => ?_)
                            obtain rfl : y354 = y440 := (m388).symm.trans m441
                            refine lv_goto (tgt := 319) hx hb dX12_next_293 (by decide) ?_
                            exact J408 y354  _ _ _ hW hF (lv_sub hl [0] rfl)
                  exact L358 400 f245 x243 x233 ((fm_R g248 rh0 rfl).trans m239) ((fm_R g248 rh0 rfl).trans ((fm_R g238 rh0 rfl).trans m221)) ((fm_I g248 rh0 rfl).trans ((fm_I g238 rh0 rfl).trans ((fm_I g208 rh0 rfl).trans m193))) ((fm_I g248 rh0 rfl).trans ((fm_I g238 rh0 rfl).trans ((fm_I g208 rh0 rfl).trans ((fm_I g178 rh0 rfl).trans ((fm_I g128 rh0 rfl).trans m120))))) ((fm_I g248 rh0 rfl).trans ((fm_I g238 rh0 rfl).trans ((fm_I g208 rh0 rfl).trans m187))) e246 (by first | omega | decide | trivial) ((fm_J g248 rh0 rfl).trans e236) (by first | omega | decide | trivial) (by omega) (by omega) _ _ _ hW hF (lv_sub hl [0] rfl)
          · have q442 : 97 ≤ y105.toInt ∧ y105.toInt ≤ 122 := by omega
            clear p113
            refine lv_iconst (v := 1) hx hb dX12_next_90 (by decide) ?_
            refine lv_goto (tgt := 114) hx hb dX12_next_91 (by decide) ?_
            refine fp_RX12_212 E hW rh0 (by decide) dX12_next_114 (fun f443 H locs e444 n445 g446 hW => ?_)
            have m447 : aI (f443 a99) (y49 : Int32).toNatClampNeg = y105 := ((congrArg (fun z => aI z (y49 : Int32).toNatClampNeg) (fm_A g446 r101 (by decide) rfl)).trans ((congrArg (fun z => aI z (y49 : Int32).toNatClampNeg) (fm_A g111 r101 (by decide) rfl)).trans m106))
            have hF := FM.tr hF g446 rfl
            refine lv_aload_n hx hb dX12_next_117 rfl (lv_at hl 0 rfl) ?_
            refine fg_RX12_212 E hW rh0 dX12_next_118 (fun y448 m449 b450 => ?_)
            obtain rfl : 1 = y448 := (e444).symm.trans m449
            refine lv_iconst (v := 3) hx hb dX12_next_121 (by decide) ?_
            refine q_icmp_ne (X := 1) (Y := 3) (tgt := 149) hx hb dX12_next_122 (by decide) rfl rfl (fun _ => ?_) (fun c => absurd c (by decide))
            refine lv_aload_n hx hb dX12_next_149 rfl (lv_at hl 0 rfl) ?_
            refine fg_RX12_212 E hW rh0 dX12_next_150 (fun y451 m452 b453 => ?_)
            obtain rfl : 1 = y451 := (m449).symm.trans m452
            refine lv_iconst (v := 1) hx hb dX12_next_153 (by decide) ?_
            refine q_icmp_ne (X := 1) (Y := 1) (tgt := 243) hx hb dX12_next_154 (by decide) rfl rfl (fun c => absurd c (by decide)) (fun _ => ?_)
            refine lv_aload_n hx hb dX12_next_157 rfl (lv_at hl 0 rfl) ?_
            refine fg_RX12_190 E hW rh0 dX12_next_158 (fun y454 m455 b456 => ?_)
            obtain rfl : y49 = y454 := (((fm_I g446 rh0 rfl).trans ((fm_I g111 rh0 rfl).trans ((fm_I g91 rh0 rfl).trans e85)))).symm.trans m455
            refine lv_aload_n hx hb dX12_next_161 rfl (lv_at hl 0 rfl) ?_
            refine fg_RX12_174 E hW rh0 dX12_next_162 (fun y457 m458 b459 => ?_)
            obtain rfl : pF12 = y457 := (((fm_I g446 rh0 rfl).trans ((fm_I g111 rh0 rfl).trans m96))).symm.trans m458
            refine q_icmp_ge (tgt := 243) hx hb dX12_next_165 (by decide) rfl rfl (fun c460 => ?_) (fun c460 => ?_)
            · refine lv_aload_n hx hb dX12_next_243 rfl (lv_at hl 0 rfl) ?_
              refine fg_RX12_212 E hW rh0 dX12_next_244 (fun y461 m462 b463 => ?_)
              obtain rfl : 1 = y461 := (m452).symm.trans m462
              refine lv_iconst (v := 2) hx hb dX12_next_247 (by decide) ?_
              refine q_icmp_ne (X := 1) (Y := 2) (tgt := 335) hx hb dX12_next_248 (by decide) rfl rfl (fun _ => ?_) (fun c => absurd c (by decide))
              exact e_V E hW rfl ⟨rfl, hF, (by have hk15 : (1 : Int32).toInt = 1 := rfl; have hkW : (0 : Int64).toInt = 0 := rfl; simp only [m458, mF12, ((fm_I g446 rh0 rfl).trans ((fm_I g111 rh0 rfl).trans m103)), m455, mF14, m462, ((fm_J g446 rh0 rfl).trans ((fm_J g111 rh0 rfl).trans e89)), mW, and_true, true_and, true_or, or_true, false_or, or_false] <;> omega)⟩ dX12_next_335
            · refine lv_aload_n hx hb dX12_next_168 rfl (lv_at hl 0 rfl) ?_
              refine fg_RX12_32 E hW rh0 dX12_next_169 (fun a464 m465 r466 => ?_)
              obtain rfl : a99 = a464 := (((fm_R g446 rh0 rfl).trans ((fm_R g111 rh0 rfl).trans m100))).symm.trans m465
              refine lv_aload_n hx hb dX12_next_172 rfl (lv_at hl 0 rfl) ?_
              refine fg_RX12_190 E hW rh0 dX12_next_173 (fun y467 m468 b469 => ?_)
              obtain rfl : y49 = y467 := (m455).symm.trans m468
              refine gl_831 E hW r101 ⟨by omega, by omega⟩ dX12_next_176 (fun y470 m471 => ?_)
              obtain rfl : y105 = y470 := (m447).symm.trans m471
              refine t_callS (As := [.int y105]) (rest := []) E hW (c_X12_isSmall l G cI cJ cZ cD cR cT kp L f443 hW.2.2.2 _ y105) wk_X12_isSmall tw_1777 rfl ⟨Nat.le_of_ble_eq_true rfl, Nat.le_of_ble_eq_true rfl⟩ ⟨rfl, rfl⟩ hl.1 rfl (Nat.le_of_ble_eq_true rfl) dX12_next_177 ⟨Nat.le_of_ble_eq_true rfl, Nat.le_of_ble_eq_true rfl⟩ (fun v473 f474 H locs q475 hW => ?_)
              obtain ⟨⟨x477, rfl, p478⟩, g476⟩ := q475
              have hF := FM.tr hF g476 rfl
              refine q_if_eq (tgt := 243) hx hb dX12_next_180 (by decide) rfl (fun c479 => ?_) (fun c479 => ?_)
              · have q480 : (y105.toInt < 97 ∨ 122 < y105.toInt) := by omega
                clear p478
                refine lv_aload_n hx hb dX12_next_243 rfl (lv_at hl 0 rfl) ?_
                refine fg_RX12_212 E hW rh0 dX12_next_244 (fun y481 m482 b483 => ?_)
                obtain rfl : 1 = y481 := (((fm_I g476 rh0 rfl).trans m452)).symm.trans m482
                refine lv_iconst (v := 2) hx hb dX12_next_247 (by decide) ?_
                refine q_icmp_ne (X := 1) (Y := 2) (tgt := 335) hx hb dX12_next_248 (by decide) rfl rfl (fun _ => ?_) (fun c => absurd c (by decide))
                exact e_V E hW rfl ⟨rfl, hF, (by have hk15 : (1 : Int32).toInt = 1 := rfl; have hkW : (0 : Int64).toInt = 0 := rfl; simp only [((fm_I g476 rh0 rfl).trans m458), mF12, ((fm_I g476 rh0 rfl).trans ((fm_I g446 rh0 rfl).trans ((fm_I g111 rh0 rfl).trans m103))), ((fm_I g476 rh0 rfl).trans m468), mF14, m482, ((fm_J g476 rh0 rfl).trans ((fm_J g446 rh0 rfl).trans ((fm_J g111 rh0 rfl).trans e89))), mW, and_true, true_and, true_or, or_true, false_or, or_false] <;> omega)⟩ dX12_next_335
              · have q484 : 97 ≤ y105.toInt ∧ y105.toInt ≤ 122 := by omega
                clear p478
                refine lv_aload_n hx hb dX12_next_183 rfl (lv_at hl 0 rfl) ?_
                refine lv_aload_n hx hb dX12_next_184 rfl (lv_at hl 0 rfl) ?_
                refine fg_RX12_190 E hW rh0 dX12_next_185 (fun y485 m486 b487 => ?_)
                obtain rfl : y49 = y485 := (((fm_I g476 rh0 rfl).trans m468)).symm.trans m486
                refine lv_aload_n hx hb dX12_next_188 rfl (lv_at hl 0 rfl) ?_
                refine fg_RX12_199 E hW rh0 dX12_next_189 (fun y488 m489 b490 => ?_)
                obtain rfl : y49 = y488 := (((fm_I g476 rh0 rfl).trans ((fm_I g446 rh0 rfl).trans ((fm_I g111 rh0 rfl).trans m103)))).symm.trans m489
                refine q_isub hx hb dX12_next_192 rfl rfl (by omega) (fun x491 h492 => ?_)
                refine lv_bipush (v := 10) hx hb dX12_next_193 (by decide) ?_
                refine q_icmp_ge (Y := 10) (tgt := 224) hx hb dX12_next_195 (by decide) rfl rfl (fun c512 => ?_) (fun c512 => ?_)
                · exfalso; omega
                · refine lv_aload_n hx hb dX12_next_198 rfl (lv_at hl 0 rfl) ?_
                  refine fg_RX12_202 E hW rh0 dX12_next_199 (fun y513 m514 => ?_)
                  obtain rfl : 0 = y513 := (((fm_J g476 rh0 rfl).trans ((fm_J g446 rh0 rfl).trans ((fm_J g111 rh0 rfl).trans e89)))).symm.trans m514
                  refine lv_ldc2 (v := 32) hx hb hown (hts _ tw_1783) dX12_next_202 ?_
                  refine q_lmul (X := 0) (Y := 32) hx hb dX12_next_205 rfl rfl (by decide) (fun x515 h516 => ?_)
                  obtain rfl : (0 : Int64) = x515 := Int64.toInt_inj.mp (Eq.trans (by decide) h516.symm)
                  refine lv_aload_n hx hb dX12_next_206 rfl (lv_at hl 0 rfl) ?_
                  refine fg_RX12_32 E hW rh0 dX12_next_207 (fun a517 m518 r519 => ?_)
                  obtain rfl : a99 = a517 := (((fm_R g476 rh0 rfl).trans m465)).symm.trans m518
                  refine lv_aload_n hx hb dX12_next_210 rfl (lv_at hl 0 rfl) ?_
                  refine fg_RX12_190 E hW rh0 dX12_next_211 (fun y520 m521 b522 => ?_)
                  obtain rfl : y49 = y520 := (m486).symm.trans m521
                  refine gl_831 E hW r101 ⟨by omega, by omega⟩ dX12_next_214 (fun y523 m524 => ?_)
                  obtain rfl : y105 = y523 := (((congrArg (fun z => aI z (y49 : Int32).toNatClampNeg) (fm_A g476 r101 (by decide) rfl)).trans m471)).symm.trans m524
                  refine q_i2l hx hb dX12_next_215 rfl (fun x526 h527 => ?_)
                  refine q_ladd (X := 0) hx hb dX12_next_216 rfl rfl (by omega) (fun x528 h529 => ?_)
                  refine lv_ldc2 (v := 96) hx hb hown (hts _ tw_1784) dX12_next_217 ?_
                  refine q_lsub (Y := 96) hx hb dX12_next_220 rfl rfl (by omega) (fun x530 h531 => ?_)
                  refine lv_goto (tgt := 227) hx hb dX12_next_221 (by decide) ?_
                  refine fp_RX12_202 E hW rh0 dX12_next_227 (fun f532 H locs e533 n534 g535 hW => ?_)
                  have hF := FM.tr hF g535 rfl
                  refine lv_aload_n hx hb dX12_next_230 rfl (lv_at hl 0 rfl) ?_
                  refine lv_dup hx hb dX12_next_231 rfl ?_
                  refine fg_RX12_190 E hW rh0 dX12_next_232 (fun y536 m537 b538 => ?_)
                  obtain rfl : y49 = y536 := (((fm_I g535 rh0 rfl).trans m521)).symm.trans m537
                  refine lv_iconst (v := 1) hx hb dX12_next_235 (by decide) ?_
                  refine q_iadd (Y := 1) hx hb dX12_next_236 rfl rfl (by omega) (fun x539 h540 => ?_)
                  refine fp_RX12_190 E hW rh0 (by omega) dX12_next_237 (fun f541 H locs e542 n543 g544 hW => ?_)
                  have m545 : oR (f541 h0) 2 = pR := ((fm_R g544 rh0 rfl).trans ((fm_R g535 rh0 rfl).trans ((fm_R g476 rh0 rfl).trans ((fm_R g446 rh0 rfl).trans ((fm_R g111 rh0 rfl).trans ((fm_R g91 rh0 rfl).trans ((fm_R g87 rh0 rfl).trans m45)))))))
                  have m546 : aI (f541 a99) (y49 : Int32).toNatClampNeg = y105 := ((congrArg (fun z => aI z (y49 : Int32).toNatClampNeg) (fm_A g544 r101 (by decide) rfl)).trans ((congrArg (fun z => aI z (y49 : Int32).toNatClampNeg) (fm_A g535 r101 (by decide) rfl)).trans m524))
                  have hF := FM.tr hF g544 rfl
                  refine lv_goto (tgt := 149) hx hb dX12_next_240 (by decide) ?_
                  have L657 : ∀ (n : Nat), ∀ (f644 : Nat → va_E) (y650 : Int32) (y653 : Int64) (m645 : oR (f644 h0) 2 = pR) (m646 : oR (f644 h0) 11 = a99) (m647 : oI (f644 h0) 12 = pF12) (m648 : oI (f644 h0) 13 = y49) (m649 : oI (f644 h0) 15 = 1) (m651 : oI (f644 h0) 14 = y650) (b652 : (1 : Int) ≤ y650.toInt ∧ y650.toInt ≤ 400) (m654 : oJ (f644 h0) 16 = y653) (b655 : True) (v656 : y650.toInt ≤ pF12.toInt ∧ y49.toInt + 1 ≤ y650.toInt ∧ (y49.toInt + 2 ≤ y650.toInt ∨ y653.toInt ≤ 26)) (hm : (401 : Int) - y650.toInt ≤ n) (H : Heap) (locs : List Loc) (ls : Array Slot), WS G cI cJ cZ cD cR cT A kp L f644 s H locs → FM kp L ms_X12_next f0 f644 → lv_has ls 1 [(0, .ref h0)] → W p l e ({ frames := 2, cells := 0, slots := 0, locals := 60 }) s m ([.ref h0] : List Value).toArray below meth c H locs 0 0 (MQ below (QT (po_X12_next kp L f0 h0) G cI cJ cZ cD cR cT A kp L) ([.ref h0] : List Value).toArray s 0 0 A) (F0 m 149 ls []) := by
                    intro n
                    induction n with
                    | zero =>
                      intro f644 y650 y653 m645 m646 m647 m648 m649 m651 b652 m654 b655 v656 hm H locs ls hW hF hl
                      have hz := i32_b y650
                      exfalso; omega
                    | succ n ih =>
                      intro f644 y650 y653 m645 m646 m647 m648 m649 m651 b652 m654 b655 v656 hm H locs ls hW hF hl
                      clear c114 q442 c479 q484 h527 h529 h531 b655
                      have ih149 := ih
                      refine lv_aload_n hx hb dX12_next_149 rfl (lv_at hl 0 rfl) ?_
                      refine fg_RX12_212 E hW rh0 dX12_next_150 (fun y658 m659 b660 => ?_)
                      obtain rfl : 1 = y658 := (m649).symm.trans m659
                      refine lv_iconst (v := 1) hx hb dX12_next_153 (by decide) ?_
                      refine q_icmp_ne (X := 1) (Y := 1) (tgt := 243) hx hb dX12_next_154 (by decide) rfl rfl (fun c => absurd c (by decide)) (fun _ => ?_)
                      refine lv_aload_n hx hb dX12_next_157 rfl (lv_at hl 0 rfl) ?_
                      refine fg_RX12_190 E hW rh0 dX12_next_158 (fun y661 m662 b663 => ?_)
                      obtain rfl : y650 = y661 := (m651).symm.trans m662
                      refine lv_aload_n hx hb dX12_next_161 rfl (lv_at hl 0 rfl) ?_
                      refine fg_RX12_174 E hW rh0 dX12_next_162 (fun y664 m665 b666 => ?_)
                      obtain rfl : pF12 = y664 := (m647).symm.trans m665
                      refine q_icmp_ge (tgt := 243) hx hb dX12_next_165 (by decide) rfl rfl (fun c667 => ?_) (fun c667 => ?_)
                      · refine lv_aload_n hx hb dX12_next_243 rfl (lv_at hl 0 rfl) ?_
                        refine fg_RX12_212 E hW rh0 dX12_next_244 (fun y668 m669 b670 => ?_)
                        obtain rfl : 1 = y668 := (m659).symm.trans m669
                        refine lv_iconst (v := 2) hx hb dX12_next_247 (by decide) ?_
                        refine q_icmp_ne (X := 1) (Y := 2) (tgt := 335) hx hb dX12_next_248 (by decide) rfl rfl (fun _ => ?_) (fun c => absurd c (by decide))
                        exact e_V E hW rfl ⟨rfl, hF, (by have hk15 : (1 : Int32).toInt = 1 := rfl; simp only [m665, mF12, m648, m662, mF14, m669, m654, mW, and_true, true_and, true_or, or_true, false_or, or_false] <;> omega)⟩ dX12_next_335
                      · refine lv_aload_n hx hb dX12_next_168 rfl (lv_at hl 0 rfl) ?_
                        refine fg_RX12_32 E hW rh0 dX12_next_169 (fun a671 m672 r673 => ?_)
                        obtain rfl : a99 = a671 := (m646).symm.trans m672
                        refine lv_aload_n hx hb dX12_next_172 rfl (lv_at hl 0 rfl) ?_
                        refine fg_RX12_190 E hW rh0 dX12_next_173 (fun y674 m675 b676 => ?_)
                        obtain rfl : y650 = y674 := (m662).symm.trans m675
                        refine gl_831 E hW r101 ⟨by omega, by omega⟩ dX12_next_176 (fun y677 m678 => ?_)
                        refine t_callS (As := [.int y677]) (rest := []) E hW (c_X12_isSmall l G cI cJ cZ cD cR cT kp L f644 hW.2.2.2 _ y677) wk_X12_isSmall tw_1777 rfl ⟨Nat.le_of_ble_eq_true rfl, Nat.le_of_ble_eq_true rfl⟩ ⟨rfl, rfl⟩ hl.1 rfl (Nat.le_of_ble_eq_true rfl) dX12_next_177 ⟨Nat.le_of_ble_eq_true rfl, Nat.le_of_ble_eq_true rfl⟩ (fun v680 f681 H locs q682 hW => ?_)
                        obtain ⟨⟨x684, rfl, p685⟩, g683⟩ := q682
                        have hF := FM.tr hF g683 rfl
                        refine q_if_eq (tgt := 243) hx hb dX12_next_180 (by decide) rfl (fun c686 => ?_) (fun c686 => ?_)
                        · have q687 : (y677.toInt < 97 ∨ 122 < y677.toInt) := by omega
                          clear p685
                          refine lv_aload_n hx hb dX12_next_243 rfl (lv_at hl 0 rfl) ?_
                          refine fg_RX12_212 E hW rh0 dX12_next_244 (fun y688 m689 b690 => ?_)
                          obtain rfl : 1 = y688 := (((fm_I g683 rh0 rfl).trans m659)).symm.trans m689
                          refine lv_iconst (v := 2) hx hb dX12_next_247 (by decide) ?_
                          refine q_icmp_ne (X := 1) (Y := 2) (tgt := 335) hx hb dX12_next_248 (by decide) rfl rfl (fun _ => ?_) (fun c => absurd c (by decide))
                          exact e_V E hW rfl ⟨rfl, hF, (by have hk15 : (1 : Int32).toInt = 1 := rfl; simp only [((fm_I g683 rh0 rfl).trans m665), mF12, ((fm_I g683 rh0 rfl).trans m648), ((fm_I g683 rh0 rfl).trans m675), mF14, m689, ((fm_J g683 rh0 rfl).trans m654), mW, and_true, true_and, true_or, or_true, false_or, or_false] <;> omega)⟩ dX12_next_335
                        · have q691 : 97 ≤ y677.toInt ∧ y677.toInt ≤ 122 := by omega
                          clear p685
                          refine lv_aload_n hx hb dX12_next_183 rfl (lv_at hl 0 rfl) ?_
                          refine lv_aload_n hx hb dX12_next_184 rfl (lv_at hl 0 rfl) ?_
                          refine fg_RX12_190 E hW rh0 dX12_next_185 (fun y692 m693 b694 => ?_)
                          obtain rfl : y650 = y692 := (((fm_I g683 rh0 rfl).trans m675)).symm.trans m693
                          refine lv_aload_n hx hb dX12_next_188 rfl (lv_at hl 0 rfl) ?_
                          refine fg_RX12_199 E hW rh0 dX12_next_189 (fun y695 m696 b697 => ?_)
                          obtain rfl : y49 = y695 := (((fm_I g683 rh0 rfl).trans m648)).symm.trans m696
                          refine q_isub hx hb dX12_next_192 rfl rfl (by omega) (fun x698 h699 => ?_)
                          refine lv_bipush (v := 10) hx hb dX12_next_193 (by decide) ?_
                          have J717 : ∀ (y716 : Int64) (H : Heap) (locs : List Loc) (ls : Array Slot), WS G cI cJ cZ cD cR cT A kp L f681 s H locs → FM kp L ms_X12_next f0 f681 → lv_has ls 1 [(0, .ref h0)] → W p l e ({ frames := 2, cells := 0, slots := 0, locals := 60 }) s m ([.ref h0] : List Value).toArray below meth c H locs 0 0 (MQ below (QT (po_X12_next kp L f0 h0) G cI cJ cZ cD cR cT A kp L) ([.ref h0] : List Value).toArray s 0 0 A) (F0 m 227 ls [.long y716, .ref h0]) := by
                            intro y716 H locs ls hW hF hl
                            clear c686
                            refine fp_RX12_202 E hW rh0 dX12_next_227 (fun f718 H locs e719 n720 g721 hW => ?_)
                            have m722 : aI (f718 a99) (y650 : Int32).toNatClampNeg = y677 := ((congrArg (fun z => aI z (y650 : Int32).toNatClampNeg) (fm_A g721 r101 (by decide) rfl)).trans ((congrArg (fun z => aI z (y650 : Int32).toNatClampNeg) (fm_A g683 r101 (by decide) rfl)).trans m678))
                            have hF := FM.tr hF g721 rfl
                            refine lv_aload_n hx hb dX12_next_230 rfl (lv_at hl 0 rfl) ?_
                            refine lv_dup hx hb dX12_next_231 rfl ?_
                            refine fg_RX12_190 E hW rh0 dX12_next_232 (fun y723 m724 b725 => ?_)
                            obtain rfl : y650 = y723 := (((fm_I g721 rh0 rfl).trans m693)).symm.trans m724
                            refine lv_iconst (v := 1) hx hb dX12_next_235 (by decide) ?_
                            refine q_iadd (Y := 1) hx hb dX12_next_236 rfl rfl (by omega) (fun x726 h727 => ?_)
                            refine fp_RX12_190 E hW rh0 (by omega) dX12_next_237 (fun f728 H locs e729 n730 g731 hW => ?_)
                            have hF := FM.tr hF g731 rfl
                            refine lv_goto (tgt := 149) hx hb dX12_next_240 (by decide) ?_
                            exact ih149 f728 x726 y716 ((fm_R g731 rh0 rfl).trans ((fm_R g721 rh0 rfl).trans ((fm_R g683 rh0 rfl).trans m645))) ((fm_R g731 rh0 rfl).trans ((fm_R g721 rh0 rfl).trans ((fm_R g683 rh0 rfl).trans m672))) ((fm_I g731 rh0 rfl).trans ((fm_I g721 rh0 rfl).trans ((fm_I g683 rh0 rfl).trans m665))) ((fm_I g731 rh0 rfl).trans ((fm_I g721 rh0 rfl).trans m696)) ((fm_I g731 rh0 rfl).trans ((fm_I g721 rh0 rfl).trans ((fm_I g683 rh0 rfl).trans m659))) e729 (by first | omega | decide | trivial) ((fm_J g731 rh0 rfl).trans e719) (by first | omega | decide | trivial) (by omega) (by omega) _ _ _ hW hF (lv_sub hl [0] rfl)
                          refine q_icmp_ge (Y := 10) (tgt := 224) hx hb dX12_next_195 (by decide) rfl rfl (fun c732 => ?_) (fun c732 => ?_)
                          · refine lv_ldc2 (v := (-1)) hx hb hown (hts _ tw_1785) dX12_next_224 ?_
                            exact J717 (-1)  _ _ _ hW hF (lv_sub hl [0] rfl)
                          · refine lv_aload_n hx hb dX12_next_198 rfl (lv_at hl 0 rfl) ?_
                            refine fg_RX12_202 E hW rh0 dX12_next_199 (fun y733 m734 => ?_)
                            obtain rfl : y653 = y733 := (((fm_J g683 rh0 rfl).trans m654)).symm.trans m734
                            refine lv_ldc2 (v := 32) hx hb hown (hts _ tw_1783) dX12_next_202 ?_
                            refine u_lmul hx hb dX12_next_205 (fun x735 => ?_)
                            refine lv_aload_n hx hb dX12_next_206 rfl (lv_at hl 0 rfl) ?_
                            refine fg_RX12_32 E hW rh0 dX12_next_207 (fun a736 m737 r738 => ?_)
                            obtain rfl : a99 = a736 := (((fm_R g683 rh0 rfl).trans m672)).symm.trans m737
                            refine lv_aload_n hx hb dX12_next_210 rfl (lv_at hl 0 rfl) ?_
                            refine fg_RX12_190 E hW rh0 dX12_next_211 (fun y739 m740 b741 => ?_)
                            obtain rfl : y650 = y739 := (m693).symm.trans m740
                            refine gl_831 E hW r101 ⟨by omega, by omega⟩ dX12_next_214 (fun y742 m743 => ?_)
                            obtain rfl : y677 = y742 := (((congrArg (fun z => aI z (y650 : Int32).toNatClampNeg) (fm_A g683 r101 (by decide) rfl)).trans m678)).symm.trans m743
                            refine q_i2l hx hb dX12_next_215 rfl (fun x745 h746 => ?_)
                            refine u_ladd hx hb dX12_next_216 (fun x747 => ?_)
                            refine lv_ldc2 (v := 96) hx hb hown (hts _ tw_1784) dX12_next_217 ?_
                            refine u_lsub hx hb dX12_next_220 (fun x748 => ?_)
                            refine lv_goto (tgt := 227) hx hb dX12_next_221 (by decide) ?_
                            exact J717 x748  _ _ _ hW hF (lv_sub hl [0] rfl)
                  exact L657 400 f541 x539 x530 m545 ((fm_R g544 rh0 rfl).trans ((fm_R g535 rh0 rfl).trans m518)) ((fm_I g544 rh0 rfl).trans ((fm_I g535 rh0 rfl).trans ((fm_I g476 rh0 rfl).trans m458))) ((fm_I g544 rh0 rfl).trans ((fm_I g535 rh0 rfl).trans m489)) ((fm_I g544 rh0 rfl).trans ((fm_I g535 rh0 rfl).trans ((fm_I g476 rh0 rfl).trans m452))) e542 (by first | omega | decide | trivial) ((fm_J g544 rh0 rfl).trans e533) (by first | omega | decide | trivial) (by omega) (by omega) _ _ _ hW hF (lv_sub hl [0] rfl)
        · refine lv_iconst (v := 0) hx hb dX12_next_71 (by decide) ?_
          refine lv_goto (tgt := 114) hx hb dX12_next_72 (by decide) ?_
          refine fp_RX12_212 E hW rh0 (by decide) dX12_next_114 (fun f749 H locs e750 n751 g752 hW => ?_)
          have hF := FM.tr hF g752 rfl
          refine lv_aload_n hx hb dX12_next_117 rfl (lv_at hl 0 rfl) ?_
          refine fg_RX12_212 E hW rh0 dX12_next_118 (fun y753 m754 b755 => ?_)
          obtain rfl : 0 = y753 := (e750).symm.trans m754
          refine lv_iconst (v := 3) hx hb dX12_next_121 (by decide) ?_
          refine q_icmp_ne (X := 0) (Y := 3) (tgt := 149) hx hb dX12_next_122 (by decide) rfl rfl (fun _ => ?_) (fun c => absurd c (by decide))
          refine lv_aload_n hx hb dX12_next_149 rfl (lv_at hl 0 rfl) ?_
          refine fg_RX12_212 E hW rh0 dX12_next_150 (fun y756 m757 b758 => ?_)
          obtain rfl : 0 = y756 := (m754).symm.trans m757
          refine lv_iconst (v := 1) hx hb dX12_next_153 (by decide) ?_
          refine q_icmp_ne (X := 0) (Y := 1) (tgt := 243) hx hb dX12_next_154 (by decide) rfl rfl (fun _ => ?_) (fun c => absurd c (by decide))
          refine lv_aload_n hx hb dX12_next_243 rfl (lv_at hl 0 rfl) ?_
          refine fg_RX12_212 E hW rh0 dX12_next_244 (fun y759 m760 b761 => ?_)
          obtain rfl : 0 = y759 := (m757).symm.trans m760
          refine lv_iconst (v := 2) hx hb dX12_next_247 (by decide) ?_
          refine q_icmp_ne (X := 0) (Y := 2) (tgt := 335) hx hb dX12_next_248 (by decide) rfl rfl (fun _ => ?_) (fun c => absurd c (by decide))
          exact e_V E hW rfl ⟨rfl, hF, (by have hk15 : (0 : Int32).toInt = 0 := rfl; have hkW : (0 : Int64).toInt = 0 := rfl; simp only [((fm_I g752 rh0 rfl).trans m96), mF12, ((fm_I g752 rh0 rfl).trans m93), ((fm_I g752 rh0 rfl).trans ((fm_I g91 rh0 rfl).trans e85)), mF14, m760, ((fm_J g752 rh0 rfl).trans e89), mW, and_true, true_and, true_or, or_true, false_or, or_false] <;> omega)⟩ dX12_next_335
      refine q_icmp_ge (tgt := 46) hx hb dX12_next_16 (by decide) rfl rfl (fun c762 => ?_) (fun c762 => ?_)
      · exact J80   _ _ _ hW hF (lv_sub hl [0] rfl)
      · refine lv_aload_n hx hb dX12_next_19 rfl (lv_at hl 0 rfl) ?_
        refine fg_RX12_32 E hW rh0 dX12_next_20 (fun a763 m764 r765 => ?_)
        refine lv_aload_n hx hb dX12_next_23 rfl (lv_at hl 0 rfl) ?_
        refine fg_RX12_199 E hW rh0 dX12_next_24 (fun y766 m767 b768 => ?_)
        obtain rfl : y49 = y766 := (m56).symm.trans m767
        refine gl_831 E hW r765 ⟨by omega, by omega⟩ dX12_next_27 (fun y769 m770 => ?_)
        refine lv_bipush (v := 32) hx hb dX12_next_28 (by decide) ?_
        refine q_icmp_ne (Y := 32) (tgt := 46) hx hb dX12_next_30 (by decide) rfl rfl (fun c772 => ?_) (fun c772 => ?_)
        · exact J80   _ _ _ hW hF (lv_sub hl [0] rfl)
        · refine lv_aload_n hx hb dX12_next_33 rfl (lv_at hl 0 rfl) ?_
          refine lv_dup hx hb dX12_next_34 rfl ?_
          refine fg_RX12_199 E hW rh0 dX12_next_35 (fun y773 m774 b775 => ?_)
          obtain rfl : y49 = y773 := (m767).symm.trans m774
          refine lv_iconst (v := 1) hx hb dX12_next_38 (by decide) ?_
          refine q_iadd (Y := 1) hx hb dX12_next_39 rfl rfl (by omega) (fun x776 h777 => ?_)
          refine fp_RX12_199 E hW rh0 (by omega) dX12_next_40 (fun f778 H locs e779 n780 g781 hW => ?_)
          have hF := FM.tr hF g781 rfl
          refine lv_goto (tgt := 8) hx hb dX12_next_43 (by decide) ?_
          exact ih8 f778 x776 ((fm_R g781 rh0 rfl).trans m45) ((fm_I g781 rh0 rfl).trans m59) ((fm_I g781 rh0 rfl).trans m47) ((fm_J g781 rh0 rfl).trans m48) e779 (by first | omega | decide | trivial) (by omega) (by omega) (by omega) _ _ _ hW hF (lv_sub hl [0] rfl)
  exact L54 401 f4 pF14 ((fm_R g7 rh0 rfl).trans mR) ((fm_I g7 rh0 rfl).trans mF12) ((fm_I g7 rh0 rfl).trans m2) ((fm_J g7 rh0 rfl).trans mW) e5 (by first | omega | decide | trivial) (by omega) (by omega) (by omega) _ _ _ hW hF (lv_sub hl [0] rfl)
def ms_X12_must : List (Nat × Nat) := [(12, 13), (12, 14), (12, 15), (12, 16), (12, 17), (12, 18)]
def po_X12_must (kp : Nat → Nat) (L : List Nat) (f0 : Nat → va_E) (h0 : Nat) (u1 : Int32) : Option Value → (Nat → va_E) → Prop := fun v f => v = none ∧ FM kp L ms_X12_must f0 f ∧ ((oI (f h0) 13).toInt ≤ (oI (f h0) 14).toInt ∧ (oI (f h0) 14).toInt ≤ (oI (f0 h0) 12).toInt ∧ ((oI (f h0) 15).toInt = 0 ∨ (oI (f h0) 13).toInt < (oI (f h0) 14).toInt) ∧ (¬ (oI (f h0) 15).toInt = 1 ∨ (oJ (f h0) 16).toInt ≤ 26 ∨ (oI (f h0) 13).toInt + 2 ≤ (oI (f h0) 14).toInt) ∧ (((oI (f h0) 18).toInt = 1 ∧ (oI (f h0) 13).toInt = (oI (f0 h0) 13).toInt) ∨ ((oI (f0 h0) 18).toInt = 0 ∧ u1.toInt = 1 ∧ (oI (f h0) 18).toInt = 0 ∧ (oI (f0 h0) 14).toInt ≤ (oI (f h0) 13).toInt)))
set_option maxHeartbeats 4000000 in
set_option maxRecDepth 100000 in
theorem c_X12_must (l : Launch) (G : va_G) (cI cJ cZ cD cR cT : ClassId) (kp : Nat → Nat) (L : List Nat) (f0 : Nat → va_E) (hTH : TH cI cJ cZ cD cR cT kp L f0) (sz : Nat) (h0 : Nat) (u1 : Int32) (rh0 : RK kp L h0 12) (pu1 : (0 : Int) ≤ u1.toInt ∧ u1.toInt ≤ 1) (hq : (oI (f0 h0) 13).toInt ≤ (oI (f0 h0) 14).toInt ∧ (oI (f0 h0) 14).toInt ≤ (oI (f0 h0) 12).toInt ∧ ((oI (f0 h0) 15).toInt = 0 ∨ (oI (f0 h0) 13).toInt < (oI (f0 h0) 14).toInt) ∧ (¬ (oI (f0 h0) 15).toInt = 1 ∨ (oJ (f0 h0) 16).toInt ≤ 26 ∨ (oI (f0 h0) 13).toInt + 2 ≤ (oI (f0 h0) 14).toInt)) : Met l yX12_must (Cond.code yX12_must cX12_must 2 none :: wTab) ({ frames := 3, cells := 0, slots := 0, locals := 80 }) (va_Pc [.ref h0, .int u1] (PreW G (tys6 cI cJ cZ cD cR cT) (va_pl L f0) sz)) (QT (po_X12_must kp L f0 h0 u1) G cI cJ cZ cD cR cT (va_A (va_pl L f0) sz) kp L) 0 0 (va_A (va_pl L f0) sz) := by
  refine metT (by decide) (Nat.le_of_ble_eq_true rfl) hTH ?_
  intro p e s m below meth c A ls E hW hl
  obtain ⟨hx, hb, -, hml, hown, hts, -, -, -⟩ := id E
  have hF : FM kp L ms_X12_must f0 f0 := FM.rf
  have hl : lv_has ls 2 [(0, .ref h0), (1, .int u1)] := hl
  obtain ⟨pF12, mF12⟩ : ∃ x : Int32, oI (f0 h0) 12 = x := ⟨_, rfl⟩
  have bF12 : (0 : Int) ≤ pF12.toInt ∧ pF12.toInt ≤ 400 := by rw [← mF12]; exact th_iv hW rh0 (by decide) (by decide) rfl
  obtain ⟨pF13, mF13⟩ : ∃ x : Int32, oI (f0 h0) 13 = x := ⟨_, rfl⟩
  have bF13 : (0 : Int) ≤ pF13.toInt ∧ pF13.toInt ≤ 400 := by rw [← mF13]; exact th_iv hW rh0 (by decide) (by decide) rfl
  obtain ⟨pF14, mF14⟩ : ∃ x : Int32, oI (f0 h0) 14 = x := ⟨_, rfl⟩
  have bF14 : (0 : Int) ≤ pF14.toInt ∧ pF14.toInt ≤ 400 := by rw [← mF14]; exact th_iv hW rh0 (by decide) (by decide) rfl
  obtain ⟨pF15, mF15⟩ : ∃ x : Int32, oI (f0 h0) 15 = x := ⟨_, rfl⟩
  have bF15 : (0 : Int) ≤ pF15.toInt ∧ pF15.toInt ≤ 3 := by rw [← mF15]; exact th_iv hW rh0 (by decide) (by decide) rfl
  obtain ⟨pF18, mF18⟩ : ∃ x : Int32, oI (f0 h0) 18 = x := ⟨_, rfl⟩
  have bF18 : (0 : Int) ≤ pF18.toInt ∧ pF18.toInt ≤ 1 := by rw [← mF18]; exact th_iv hW rh0 (by decide) (by decide) rfl
  obtain ⟨pF21, mF21⟩ : ∃ x : Int32, oI (f0 h0) 21 = x := ⟨_, rfl⟩
  have bF21 : (0 : Int) ≤ pF21.toInt ∧ pF21.toInt ≤ 400 := by rw [← mF21]; exact th_iv hW rh0 (by decide) (by decide) rfl
  obtain ⟨pF24, mF24⟩ : ∃ x : Int32, oI (f0 h0) 24 = x := ⟨_, rfl⟩
  have bF24 : (0 : Int) ≤ pF24.toInt ∧ pF24.toInt ≤ 50 := by rw [← mF24]; exact th_iv hW rh0 (by decide) (by decide) rfl
  obtain ⟨pF27, mF27⟩ : ∃ x : Int32, oI (f0 h0) 27 = x := ⟨_, rfl⟩
  have bF27 : (0 : Int) ≤ pF27.toInt ∧ pF27.toInt ≤ 400 := by rw [← mF27]; exact th_iv hW rh0 (by decide) (by decide) rfl
  obtain ⟨pW, mW⟩ : ∃ x : Int64, oJ (f0 h0) 16 = x := ⟨_, rfl⟩
  simp only [mF12, mF13, mF14, mF15, mF18, mF21, mF24, mF27, mW] at hq
  obtain ⟨pR, mR⟩ : ∃ x : Nat, oR (f0 h0) 2 = x := ⟨_, rfl⟩
  have rR : RK kp L pR 822 := by rw [← mR]; exact th_ref hTH rh0 (by decide) (by decide) rfl
  refine lv_aload_n hx hb dX12_must_0 rfl (lv_at hl 0 rfl) ?_
  refine fg_RX12_193 E hW rh0 dX12_must_1 (fun y1 m2 b3 => ?_)
  obtain rfl : pF18 = y1 := (mF18).symm.trans m2
  refine q_if_ne (tgt := 24) hx hb dX12_must_4 (by decide) rfl (fun c4 => ?_) (fun c4 => ?_)
  · refine lv_aload_n hx hb dX12_must_24 rfl (lv_at hl 0 rfl) ?_
    refine fg_RX12_193 E hW rh0 dX12_must_25 (fun y5 m6 b7 => ?_)
    obtain rfl : pF18 = y5 := (m2).symm.trans m6
    refine q_if_ne (tgt := 35) hx hb dX12_must_28 (by decide) rfl (fun c8 => ?_) (fun c8 => ?_)
    · exact e_V E hW rfl ⟨rfl, hF, (by simp only [mF12, mF13, mF14, mF15, m6, mF18, mW, and_true, true_and, true_or, or_true, false_or, or_false] <;> omega)⟩ dX12_must_35
    · exfalso; omega
  · refine lv_iload_n hx hb dX12_must_7 rfl (lv_at hl 1 rfl) ?_
    refine q_if_ne (tgt := 24) hx hb dX12_must_8 (by decide) rfl (fun c9 => ?_) (fun c9 => ?_)
    · refine lv_aload_n hx hb dX12_must_24 rfl (lv_at hl 0 rfl) ?_
      refine fg_RX12_193 E hW rh0 dX12_must_25 (fun y10 m11 b12 => ?_)
      obtain rfl : pF18 = y10 := (m2).symm.trans m11
      refine q_if_ne (tgt := 35) hx hb dX12_must_28 (by decide) rfl (fun c13 => ?_) (fun c13 => ?_)
      · exfalso; omega
      · refine lv_aload_n hx hb dX12_must_31 rfl (lv_at hl 0 rfl) ?_
        refine t_callV (As := []) (rest := []) E hW (c_X12_next l G cI cJ cZ cD cR cT kp L f0 hW.2.2.2 _ h0 rh0 (by simp only [mF12, mF14, and_true, true_and, true_or, or_true, false_or, or_false] <;> omega)) rh0 (by decide) rfl wk_X12_next tw_1773 rfl ⟨Nat.le_of_ble_eq_true rfl, Nat.le_of_ble_eq_true rfl⟩ ⟨rfl, rfl⟩ hl.1 rfl (Nat.le_of_ble_eq_true rfl) dX12_must_32 ⟨Nat.le_of_ble_eq_true rfl, Nat.le_of_ble_eq_true rfl⟩ (fun v14 f15 H locs q16 hW => ?_)
        obtain ⟨rfl, g17, h18⟩ := q16
        have hF := FM.tr hF g17 rfl
        obtain ⟨y19, m20⟩ : ∃ x : Int32, oI (f15 h0) 13 = x := ⟨_, rfl⟩
        have b21 : (0 : Int) ≤ y19.toInt ∧ y19.toInt ≤ 400 := by rw [← m20]; exact th_iv hW rh0 (by decide) (by decide) rfl
        obtain ⟨y22, m23⟩ : ∃ x : Int32, oI (f15 h0) 14 = x := ⟨_, rfl⟩
        have b24 : (0 : Int) ≤ y22.toInt ∧ y22.toInt ≤ 400 := by rw [← m23]; exact th_iv hW rh0 (by decide) (by decide) rfl
        obtain ⟨y25, m26⟩ : ∃ x : Int32, oI (f15 h0) 15 = x := ⟨_, rfl⟩
        have b27 : (0 : Int) ≤ y25.toInt ∧ y25.toInt ≤ 3 := by rw [← m26]; exact th_iv hW rh0 (by decide) (by decide) rfl
        obtain ⟨y28, m29⟩ : ∃ x : Int64, oJ (f15 h0) 16 = x := ⟨_, rfl⟩
        simp only [((fm_I g17 rh0 rfl).trans mF12), mF12, m20, mF13, m23, mF14, m26, mF15, m29, mW] at h18
        exact e_V E hW rfl ⟨rfl, hF, (by simp only [((fm_I g17 rh0 rfl).trans mF12), mF12, m20, mF13, m23, mF14, m26, mF15, ((fm_I g17 rh0 rfl).trans m11), mF18, m29, mW, and_true, true_and, true_or, or_true, false_or, or_false] <;> omega)⟩ dX12_must_35
    · refine lv_aload_n hx hb dX12_must_11 rfl (lv_at hl 0 rfl) ?_
      refine lv_iconst (v := 1) hx hb dX12_must_12 (by decide) ?_
      refine fp_RX12_193 E hW rh0 (by decide) dX12_must_13 (fun f30 H locs e31 n32 g33 hW => ?_)
      have hF := FM.tr hF g33 rfl
      refine lv_aload_n hx hb dX12_must_16 rfl (lv_at hl 0 rfl) ?_
      refine lv_aload_n hx hb dX12_must_17 rfl (lv_at hl 0 rfl) ?_
      refine fg_RX12_199 E hW rh0 dX12_must_18 (fun y34 m35 b36 => ?_)
      obtain rfl : pF13 = y34 := (((fm_I g33 rh0 rfl).trans mF13)).symm.trans m35
      refine fp_RX12_35 E hW rh0 dX12_must_21 (fun f37 H locs e38 n39 g40 hW => ?_)
      have hF := FM.tr hF g40 rfl
      refine lv_aload_n hx hb dX12_must_24 rfl (lv_at hl 0 rfl) ?_
      refine fg_RX12_193 E hW rh0 dX12_must_25 (fun y41 m42 b43 => ?_)
      obtain rfl : 1 = y41 := (((fm_I g40 rh0 rfl).trans e31)).symm.trans m42
      refine q_if_ne (X := 1) (tgt := 35) hx hb dX12_must_28 (by decide) rfl (fun _ => ?_) (fun c => absurd c (by decide))
      exact e_V E hW rfl ⟨rfl, hF, (by have hk18 : (1 : Int32).toInt = 1 := rfl; simp only [((fm_I g40 rh0 rfl).trans ((fm_I g33 rh0 rfl).trans mF12)), mF12, ((fm_I g40 rh0 rfl).trans m35), mF13, ((fm_I g40 rh0 rfl).trans ((fm_I g33 rh0 rfl).trans mF14)), mF14, ((fm_I g40 rh0 rfl).trans ((fm_I g33 rh0 rfl).trans mF15)), mF15, m42, mF18, ((fm_J g40 rh0 rfl).trans ((fm_J g33 rh0 rfl).trans mW)), mW, and_true, true_and, true_or, or_true, false_or, or_false] <;> omega)⟩ dX12_must_35
def ms_X12_begin : List (Nat × Nat) := [(12, 13), (12, 14), (12, 15), (12, 16), (12, 17), (12, 18)]
def po_X12_begin (kp : Nat → Nat) (L : List Nat) (f0 : Nat → va_E) (h0 : Nat) : Option Value → (Nat → va_E) → Prop := fun v f => v = none ∧ FM kp L ms_X12_begin f0 f ∧ ((oI (f h0) 13).toInt ≤ (oI (f h0) 14).toInt ∧ (oI (f h0) 14).toInt ≤ (oI (f0 h0) 12).toInt ∧ ((oI (f h0) 15).toInt = 0 ∨ (oI (f h0) 13).toInt < (oI (f h0) 14).toInt) ∧ (¬ (oI (f h0) 15).toInt = 1 ∨ (oJ (f h0) 16).toInt ≤ 26 ∨ (oI (f h0) 13).toInt + 2 ≤ (oI (f h0) 14).toInt) ∧ (oI (f h0) 18).toInt = 0)
set_option maxHeartbeats 4000000 in
set_option maxRecDepth 100000 in
theorem c_X12_begin (l : Launch) (G : va_G) (cI cJ cZ cD cR cT : ClassId) (kp : Nat → Nat) (L : List Nat) (f0 : Nat → va_E) (hTH : TH cI cJ cZ cD cR cT kp L f0) (sz : Nat) (h0 : Nat) (rh0 : RK kp L h0 12) : Met l yX12_begin (Cond.code yX12_begin cX12_begin 1 none :: wTab) ({ frames := 3, cells := 0, slots := 0, locals := 80 }) (va_Pc [.ref h0] (PreW G (tys6 cI cJ cZ cD cR cT) (va_pl L f0) sz)) (QT (po_X12_begin kp L f0 h0) G cI cJ cZ cD cR cT (va_A (va_pl L f0) sz) kp L) 0 0 (va_A (va_pl L f0) sz) := by
  refine metT (by decide) (Nat.le_of_ble_eq_true rfl) hTH ?_
  intro p e s m below meth c A ls E hW hl
  obtain ⟨hx, hb, -, hml, hown, hts, -, -, -⟩ := id E
  have hF : FM kp L ms_X12_begin f0 f0 := FM.rf
  have hl : lv_has ls 1 [(0, .ref h0)] := hl
  obtain ⟨pF12, mF12⟩ : ∃ x : Int32, oI (f0 h0) 12 = x := ⟨_, rfl⟩
  have bF12 : (0 : Int) ≤ pF12.toInt ∧ pF12.toInt ≤ 400 := by rw [← mF12]; exact th_iv hW rh0 (by decide) (by decide) rfl
  obtain ⟨pW, mW⟩ : ∃ x : Int64, oJ (f0 h0) 16 = x := ⟨_, rfl⟩
  obtain ⟨pR, mR⟩ : ∃ x : Nat, oR (f0 h0) 2 = x := ⟨_, rfl⟩
  have rR : RK kp L pR 822 := by rw [← mR]; exact th_ref hTH rh0 (by decide) (by decide) rfl
  refine lv_aload_n hx hb dX12_begin_0 rfl (lv_at hl 0 rfl) ?_
  refine lv_iconst (v := 0) hx hb dX12_begin_1 (by decide) ?_
  refine fp_RX12_190 E hW rh0 (by decide) dX12_begin_2 (fun f1 H locs e2 n3 g4 hW => ?_)
  have hF := FM.tr hF g4 rfl
  refine lv_aload_n hx hb dX12_begin_5 rfl (lv_at hl 0 rfl) ?_
  refine lv_iconst (v := 0) hx hb dX12_begin_6 (by decide) ?_
  refine fp_RX12_193 E hW rh0 (by decide) dX12_begin_7 (fun f5 H locs e6 n7 g8 hW => ?_)
  have hF := FM.tr hF g8 rfl
  refine lv_aload_n hx hb dX12_begin_10 rfl (lv_at hl 0 rfl) ?_
  refine lv_iconst (v := (-1)) hx hb dX12_begin_11 (by decide) ?_
  refine fp_RX12_35 E hW rh0 dX12_begin_12 (fun f9 H locs e10 n11 g12 hW => ?_)
  have hF := FM.tr hF g12 rfl
  refine lv_aload_n hx hb dX12_begin_15 rfl (lv_at hl 0 rfl) ?_
  refine t_callV (As := []) (rest := []) E hW (c_X12_next l G cI cJ cZ cD cR cT kp L f9 hW.2.2.2 _ h0 rh0 (by have hk14 : (0 : Int32).toInt = 0 := rfl; simp only [((fm_I g12 rh0 rfl).trans ((fm_I g8 rh0 rfl).trans ((fm_I g4 rh0 rfl).trans mF12))), ((fm_I g12 rh0 rfl).trans ((fm_I g8 rh0 rfl).trans e2)), and_true, true_and, true_or, or_true, false_or, or_false] <;> omega)) rh0 (by decide) rfl wk_X12_next tw_1773 rfl ⟨Nat.le_of_ble_eq_true rfl, Nat.le_of_ble_eq_true rfl⟩ ⟨rfl, rfl⟩ hl.1 rfl (Nat.le_of_ble_eq_true rfl) dX12_begin_16 ⟨Nat.le_of_ble_eq_true rfl, Nat.le_of_ble_eq_true rfl⟩ (fun v13 f14 H locs q15 hW => ?_)
  obtain ⟨rfl, g16, h17⟩ := q15
  have hF := FM.tr hF g16 rfl
  obtain ⟨y18, m19⟩ : ∃ x : Int32, oI (f14 h0) 13 = x := ⟨_, rfl⟩
  have b20 : (0 : Int) ≤ y18.toInt ∧ y18.toInt ≤ 400 := by rw [← m19]; exact th_iv hW rh0 (by decide) (by decide) rfl
  obtain ⟨y21, m22⟩ : ∃ x : Int32, oI (f14 h0) 14 = x := ⟨_, rfl⟩
  have b23 : (0 : Int) ≤ y21.toInt ∧ y21.toInt ≤ 400 := by rw [← m22]; exact th_iv hW rh0 (by decide) (by decide) rfl
  obtain ⟨y24, m25⟩ : ∃ x : Int32, oI (f14 h0) 15 = x := ⟨_, rfl⟩
  have b26 : (0 : Int) ≤ y24.toInt ∧ y24.toInt ≤ 3 := by rw [← m25]; exact th_iv hW rh0 (by decide) (by decide) rfl
  obtain ⟨y27, m28⟩ : ∃ x : Int64, oJ (f14 h0) 16 = x := ⟨_, rfl⟩
  simp only [((fm_I g16 rh0 rfl).trans ((fm_I g12 rh0 rfl).trans ((fm_I g8 rh0 rfl).trans ((fm_I g4 rh0 rfl).trans mF12)))), ((fm_I g12 rh0 rfl).trans ((fm_I g8 rh0 rfl).trans ((fm_I g4 rh0 rfl).trans mF12))), m19, m22, ((fm_I g12 rh0 rfl).trans ((fm_I g8 rh0 rfl).trans e2)), m25, m28, ((fm_J g12 rh0 rfl).trans ((fm_J g8 rh0 rfl).trans ((fm_J g4 rh0 rfl).trans mW)))] at h17
  have hk29 : (0 : Int32).toInt = 0 := rfl
  exact e_V E hW rfl ⟨rfl, hF, (by have hk18 : (0 : Int32).toInt = 0 := rfl; simp only [((fm_I g16 rh0 rfl).trans ((fm_I g12 rh0 rfl).trans ((fm_I g8 rh0 rfl).trans ((fm_I g4 rh0 rfl).trans mF12)))), mF12, m19, m22, m25, ((fm_I g16 rh0 rfl).trans ((fm_I g12 rh0 rfl).trans e6)), m28, mW, and_true, true_and, true_or, or_true, false_or, or_false] <;> omega)⟩ dX12_begin_19
def ms_X12_number : List (Nat × Nat) := [(12, 13), (12, 14), (12, 15), (12, 16), (12, 17), (12, 18)]
def po_X12_number (kp : Nat → Nat) (L : List Nat) (f0 : Nat → va_E) (h0 : Nat) (u1 : Int64) (u2 : Int64) : Option Value → (Nat → va_E) → Prop := fun v f => (∃ r : Int32, v = some (.int r) ∧ (True)) ∧ FM kp L ms_X12_number f0 f ∧ (∀ r : Int32, v = some (.int r) → ((oI (f h0) 13).toInt ≤ (oI (f h0) 14).toInt ∧ (oI (f h0) 14).toInt ≤ (oI (f0 h0) 12).toInt ∧ ((oI (f h0) 15).toInt = 0 ∨ (oI (f h0) 13).toInt < (oI (f h0) 14).toInt) ∧ (¬ (oI (f h0) 15).toInt = 1 ∨ (oJ (f h0) 16).toInt ≤ 26 ∨ (oI (f h0) 13).toInt + 2 ≤ (oI (f h0) 14).toInt) ∧ (oI (f0 h0) 13).toInt ≤ (oI (f h0) 13).toInt ∧ (¬ (oI (f0 h0) 18).toInt = 1 ∨ (oI (f h0) 18).toInt = 1) ∧ ((oI (f h0) 18).toInt = 1 ∨ (u1.toInt ≤ r.toInt ∧ r.toInt ≤ u2.toInt))))
set_option maxHeartbeats 4000000 in
set_option maxRecDepth 100000 in
theorem c_X12_number (l : Launch) (G : va_G) (cI cJ cZ cD cR cT : ClassId) (kp : Nat → Nat) (L : List Nat) (f0 : Nat → va_E) (hTH : TH cI cJ cZ cD cR cT kp L f0) (sz : Nat) (h0 : Nat) (u1 : Int64) (u2 : Int64) (rh0 : RK kp L h0 12) (pu1 : (0 : Int) ≤ u1.toInt ∧ u1.toInt ≤ 1) (pu2 : (3 : Int) ≤ u2.toInt ∧ u2.toInt ≤ 52) (hq : (oI (f0 h0) 13).toInt ≤ (oI (f0 h0) 14).toInt ∧ (oI (f0 h0) 14).toInt ≤ (oI (f0 h0) 12).toInt ∧ ((oI (f0 h0) 15).toInt = 0 ∨ (oI (f0 h0) 13).toInt < (oI (f0 h0) 14).toInt) ∧ (¬ (oI (f0 h0) 15).toInt = 1 ∨ (oJ (f0 h0) 16).toInt ≤ 26 ∨ (oI (f0 h0) 13).toInt + 2 ≤ (oI (f0 h0) 14).toInt)) : Met l yX12_number (Cond.code yX12_number cX12_number 6 (some .int) :: wTab) ({ frames := 4, cells := 0, slots := 0, locals := 101 }) (va_Pc [.ref h0, .long u1, .long u2] (PreW G (tys6 cI cJ cZ cD cR cT) (va_pl L f0) sz)) (QT (po_X12_number kp L f0 h0 u1 u2) G cI cJ cZ cD cR cT (va_A (va_pl L f0) sz) kp L) 0 0 (va_A (va_pl L f0) sz) := by
  refine metT (by decide) (Nat.le_of_ble_eq_true rfl) hTH ?_
  intro p e s m below meth c A ls E hW hl
  obtain ⟨hx, hb, -, hml, hown, hts, -, -, -⟩ := id E
  have hF : FM kp L ms_X12_number f0 f0 := FM.rf
  have hl : lv_has ls 6 [(0, .ref h0), (1, .long u1), (3, .long u2)] := hl
  obtain ⟨pF12, mF12⟩ : ∃ x : Int32, oI (f0 h0) 12 = x := ⟨_, rfl⟩
  have bF12 : (0 : Int) ≤ pF12.toInt ∧ pF12.toInt ≤ 400 := by rw [← mF12]; exact th_iv hW rh0 (by decide) (by decide) rfl
  obtain ⟨pF13, mF13⟩ : ∃ x : Int32, oI (f0 h0) 13 = x := ⟨_, rfl⟩
  have bF13 : (0 : Int) ≤ pF13.toInt ∧ pF13.toInt ≤ 400 := by rw [← mF13]; exact th_iv hW rh0 (by decide) (by decide) rfl
  obtain ⟨pF14, mF14⟩ : ∃ x : Int32, oI (f0 h0) 14 = x := ⟨_, rfl⟩
  have bF14 : (0 : Int) ≤ pF14.toInt ∧ pF14.toInt ≤ 400 := by rw [← mF14]; exact th_iv hW rh0 (by decide) (by decide) rfl
  obtain ⟨pF15, mF15⟩ : ∃ x : Int32, oI (f0 h0) 15 = x := ⟨_, rfl⟩
  have bF15 : (0 : Int) ≤ pF15.toInt ∧ pF15.toInt ≤ 3 := by rw [← mF15]; exact th_iv hW rh0 (by decide) (by decide) rfl
  obtain ⟨pF18, mF18⟩ : ∃ x : Int32, oI (f0 h0) 18 = x := ⟨_, rfl⟩
  have bF18 : (0 : Int) ≤ pF18.toInt ∧ pF18.toInt ≤ 1 := by rw [← mF18]; exact th_iv hW rh0 (by decide) (by decide) rfl
  obtain ⟨pF21, mF21⟩ : ∃ x : Int32, oI (f0 h0) 21 = x := ⟨_, rfl⟩
  have bF21 : (0 : Int) ≤ pF21.toInt ∧ pF21.toInt ≤ 400 := by rw [← mF21]; exact th_iv hW rh0 (by decide) (by decide) rfl
  obtain ⟨pF24, mF24⟩ : ∃ x : Int32, oI (f0 h0) 24 = x := ⟨_, rfl⟩
  have bF24 : (0 : Int) ≤ pF24.toInt ∧ pF24.toInt ≤ 50 := by rw [← mF24]; exact th_iv hW rh0 (by decide) (by decide) rfl
  obtain ⟨pF27, mF27⟩ : ∃ x : Int32, oI (f0 h0) 27 = x := ⟨_, rfl⟩
  have bF27 : (0 : Int) ≤ pF27.toInt ∧ pF27.toInt ≤ 400 := by rw [← mF27]; exact th_iv hW rh0 (by decide) (by decide) rfl
  obtain ⟨pW, mW⟩ : ∃ x : Int64, oJ (f0 h0) 16 = x := ⟨_, rfl⟩
  simp only [mF12, mF13, mF14, mF15, mF18, mF21, mF24, mF27, mW] at hq
  obtain ⟨pR, mR⟩ : ∃ x : Nat, oR (f0 h0) 2 = x := ⟨_, rfl⟩
  have rR : RK kp L pR 822 := by rw [← mR]; exact th_ref hTH rh0 (by decide) (by decide) rfl
  refine lv_aload_n hx hb dX12_number_0 rfl (lv_at hl 0 rfl) ?_
  refine fg_RX12_202 E hW rh0 dX12_number_1 (fun y1 m2 => ?_)
  obtain rfl : pW = y1 := (mW).symm.trans m2
  refine q_l2iC hx hb dX12_number_4 rfl (fun x3 h4 => ?_)
  refine lv_istore (lv' := [(5, .int x3), (0, .ref h0), (1, .long u1), (3, .long u2)]) hx hb dX12_number_5 hl (by decide) rfl (fun ls hl => ?_)
  refine lv_aload_n hx hb dX12_number_7 rfl (lv_at hl 1 rfl) ?_
  refine lv_aload_n hx hb dX12_number_8 rfl (lv_at hl 1 rfl) ?_
  refine fg_RX12_212 E hW rh0 dX12_number_9 (fun y5 m6 b7 => ?_)
  obtain rfl : pF15 = y5 := (mF15).symm.trans m6
  refine lv_iconst (v := 2) hx hb dX12_number_12 (by decide) ?_
  refine q_icmp_ne (Y := 2) (tgt := 32) hx hb dX12_number_13 (by decide) rfl rfl (fun c8 => ?_) (fun c8 => ?_)
  · refine lv_iconst (v := 0) hx hb dX12_number_32 (by decide) ?_
    refine t_callV (As := [.int 0]) (rest := []) E hW (c_X12_must l G cI cJ cZ cD cR cT kp L f0 hW.2.2.2 _ h0 0 rh0 (by decide) (by have hkq9 : (0 : Int32).toInt = 0 := rfl; simp only [mF12, mF13, mF14, m6, m2, and_true, true_and, true_or, or_true, false_or, or_false] <;> omega)) rh0 (by decide) rfl wk_X12_must tw_1807 rfl ⟨Nat.le_of_ble_eq_true rfl, Nat.le_of_ble_eq_true rfl⟩ ⟨rfl, rfl⟩ hl.1 rfl (Nat.le_of_ble_eq_true rfl) dX12_number_33 ⟨Nat.le_of_ble_eq_true rfl, Nat.le_of_ble_eq_true rfl⟩ (fun v10 f11 H locs q12 hW => ?_)
    obtain ⟨rfl, g13, h14⟩ := q12
    have hF := FM.tr hF g13 rfl
    have hk15 : (0 : Int32).toInt = 0 := rfl
    obtain ⟨y16, m17⟩ : ∃ x : Int32, oI (f11 h0) 13 = x := ⟨_, rfl⟩
    have b18 : (0 : Int) ≤ y16.toInt ∧ y16.toInt ≤ 400 := by rw [← m17]; exact th_iv hW rh0 (by decide) (by decide) rfl
    obtain ⟨y19, m20⟩ : ∃ x : Int32, oI (f11 h0) 14 = x := ⟨_, rfl⟩
    have b21 : (0 : Int) ≤ y19.toInt ∧ y19.toInt ≤ 400 := by rw [← m20]; exact th_iv hW rh0 (by decide) (by decide) rfl
    obtain ⟨y22, m23⟩ : ∃ x : Int32, oI (f11 h0) 15 = x := ⟨_, rfl⟩
    have b24 : (0 : Int) ≤ y22.toInt ∧ y22.toInt ≤ 3 := by rw [← m23]; exact th_iv hW rh0 (by decide) (by decide) rfl
    obtain ⟨y25, m26⟩ : ∃ x : Int32, oI (f11 h0) 18 = x := ⟨_, rfl⟩
    have b27 : (0 : Int) ≤ y25.toInt ∧ y25.toInt ≤ 1 := by rw [← m26]; exact th_iv hW rh0 (by decide) (by decide) rfl
    obtain ⟨y28, m29⟩ : ∃ x : Int64, oJ (f11 h0) 16 = x := ⟨_, rfl⟩
    simp only [((fm_I g13 rh0 rfl).trans mF12), mF12, m17, mF13, m20, mF14, m23, m6, m26, mF18, m29, m2] at h14
    refine lv_iload hx hb dX12_number_36 (lv_at hl 0 rfl) ?_
    exact e_I E hW rfl ⟨⟨_, rfl, trivial⟩, hF, (by intro r hr; cases hr; simp only [((fm_I g13 rh0 rfl).trans mF12), mF12, m17, mF13, m20, mF14, m23, mF15, m26, mF18, m29, mW, and_true, true_and, true_or, or_true, false_or, or_false] <;> omega)⟩ dX12_number_38
  · refine lv_aload_n hx hb dX12_number_16 rfl (lv_at hl 1 rfl) ?_
    refine fg_RX12_202 E hW rh0 dX12_number_17 (fun y30 m31 => ?_)
    obtain rfl : pW = y30 := (m2).symm.trans m31
    refine lv_lload_n hx hb dX12_number_20 rfl (lv_at hl 2 rfl) ?_
    refine lv_lload_n hx hb dX12_number_21 rfl (lv_at hl 3 rfl) ?_
    refine t_callS (As := [.long pW, .long u1, .long u2]) (rest := [.ref h0]) E hW (c_X12_in l G cI cJ cZ cD cR cT kp L f0 hW.2.2.2 _ pW u1 u2) wk_X12_in tw_1554 rfl ⟨Nat.le_of_ble_eq_true rfl, Nat.le_of_ble_eq_true rfl⟩ ⟨rfl, rfl⟩ hl.1 rfl (Nat.le_of_ble_eq_true rfl) dX12_number_22 ⟨Nat.le_of_ble_eq_true rfl, Nat.le_of_ble_eq_true rfl⟩ (fun v32 f33 H locs q34 hW => ?_)
    obtain ⟨⟨x36, rfl, p37⟩, g35⟩ := q34
    have hF := FM.tr hF g35 rfl
    refine q_if_eq (tgt := 32) hx hb dX12_number_25 (by decide) rfl (fun c38 => ?_) (fun c38 => ?_)
    · have q39 : (pW.toInt < u1.toInt ∨ u2.toInt < pW.toInt) := by omega
      clear p37
      refine lv_iconst (v := 0) hx hb dX12_number_32 (by decide) ?_
      refine t_callV (As := [.int 0]) (rest := []) E hW (c_X12_must l G cI cJ cZ cD cR cT kp L f33 hW.2.2.2 _ h0 0 rh0 (by decide) (by have hkq40 : (0 : Int32).toInt = 0 := rfl; simp only [((fm_I g35 rh0 rfl).trans mF12), ((fm_I g35 rh0 rfl).trans mF13), ((fm_I g35 rh0 rfl).trans mF14), ((fm_I g35 rh0 rfl).trans m6), ((fm_J g35 rh0 rfl).trans m31), and_true, true_and, true_or, or_true, false_or, or_false] <;> omega)) rh0 (by decide) rfl wk_X12_must tw_1807 rfl ⟨Nat.le_of_ble_eq_true rfl, Nat.le_of_ble_eq_true rfl⟩ ⟨rfl, rfl⟩ hl.1 rfl (Nat.le_of_ble_eq_true rfl) dX12_number_33 ⟨Nat.le_of_ble_eq_true rfl, Nat.le_of_ble_eq_true rfl⟩ (fun v41 f42 H locs q43 hW => ?_)
      obtain ⟨rfl, g44, h45⟩ := q43
      have hF := FM.tr hF g44 rfl
      have hk46 : (0 : Int32).toInt = 0 := rfl
      obtain ⟨y47, m48⟩ : ∃ x : Int32, oI (f42 h0) 13 = x := ⟨_, rfl⟩
      have b49 : (0 : Int) ≤ y47.toInt ∧ y47.toInt ≤ 400 := by rw [← m48]; exact th_iv hW rh0 (by decide) (by decide) rfl
      obtain ⟨y50, m51⟩ : ∃ x : Int32, oI (f42 h0) 14 = x := ⟨_, rfl⟩
      have b52 : (0 : Int) ≤ y50.toInt ∧ y50.toInt ≤ 400 := by rw [← m51]; exact th_iv hW rh0 (by decide) (by decide) rfl
      obtain ⟨y53, m54⟩ : ∃ x : Int32, oI (f42 h0) 15 = x := ⟨_, rfl⟩
      have b55 : (0 : Int) ≤ y53.toInt ∧ y53.toInt ≤ 3 := by rw [← m54]; exact th_iv hW rh0 (by decide) (by decide) rfl
      obtain ⟨y56, m57⟩ : ∃ x : Int32, oI (f42 h0) 18 = x := ⟨_, rfl⟩
      have b58 : (0 : Int) ≤ y56.toInt ∧ y56.toInt ≤ 1 := by rw [← m57]; exact th_iv hW rh0 (by decide) (by decide) rfl
      obtain ⟨y59, m60⟩ : ∃ x : Int64, oJ (f42 h0) 16 = x := ⟨_, rfl⟩
      simp only [((fm_I g44 rh0 rfl).trans ((fm_I g35 rh0 rfl).trans mF12)), ((fm_I g35 rh0 rfl).trans mF12), m48, ((fm_I g35 rh0 rfl).trans mF13), m51, ((fm_I g35 rh0 rfl).trans mF14), m54, ((fm_I g35 rh0 rfl).trans m6), m57, ((fm_I g35 rh0 rfl).trans mF18), m60, ((fm_J g35 rh0 rfl).trans m31)] at h45
      refine lv_iload hx hb dX12_number_36 (lv_at hl 0 rfl) ?_
      exact e_I E hW rfl ⟨⟨_, rfl, trivial⟩, hF, (by intro r hr; cases hr; simp only [((fm_I g44 rh0 rfl).trans ((fm_I g35 rh0 rfl).trans mF12)), mF12, m48, mF13, m51, mF14, m54, mF15, m57, mF18, m60, mW, and_true, true_and, true_or, or_true, false_or, or_false] <;> omega)⟩ dX12_number_38
    · have q61 : u1.toInt ≤ pW.toInt ∧ pW.toInt ≤ u2.toInt := by omega
      clear p37
      refine lv_iconst (v := 1) hx hb dX12_number_28 (by decide) ?_
      refine lv_goto (tgt := 33) hx hb dX12_number_29 (by decide) ?_
      refine t_callV (As := [.int 1]) (rest := []) E hW (c_X12_must l G cI cJ cZ cD cR cT kp L f33 hW.2.2.2 _ h0 1 rh0 (by decide) (by have hkq62 : (1 : Int32).toInt = 1 := rfl; simp only [((fm_I g35 rh0 rfl).trans mF12), ((fm_I g35 rh0 rfl).trans mF13), ((fm_I g35 rh0 rfl).trans mF14), ((fm_I g35 rh0 rfl).trans m6), ((fm_J g35 rh0 rfl).trans m31), and_true, true_and, true_or, or_true, false_or, or_false] <;> omega)) rh0 (by decide) rfl wk_X12_must tw_1807 rfl ⟨Nat.le_of_ble_eq_true rfl, Nat.le_of_ble_eq_true rfl⟩ ⟨rfl, rfl⟩ hl.1 rfl (Nat.le_of_ble_eq_true rfl) dX12_number_33 ⟨Nat.le_of_ble_eq_true rfl, Nat.le_of_ble_eq_true rfl⟩ (fun v63 f64 H locs q65 hW => ?_)
      obtain ⟨rfl, g66, h67⟩ := q65
      have hF := FM.tr hF g66 rfl
      have hk68 : (1 : Int32).toInt = 1 := rfl
      obtain ⟨y69, m70⟩ : ∃ x : Int32, oI (f64 h0) 13 = x := ⟨_, rfl⟩
      have b71 : (0 : Int) ≤ y69.toInt ∧ y69.toInt ≤ 400 := by rw [← m70]; exact th_iv hW rh0 (by decide) (by decide) rfl
      obtain ⟨y72, m73⟩ : ∃ x : Int32, oI (f64 h0) 14 = x := ⟨_, rfl⟩
      have b74 : (0 : Int) ≤ y72.toInt ∧ y72.toInt ≤ 400 := by rw [← m73]; exact th_iv hW rh0 (by decide) (by decide) rfl
      obtain ⟨y75, m76⟩ : ∃ x : Int32, oI (f64 h0) 15 = x := ⟨_, rfl⟩
      have b77 : (0 : Int) ≤ y75.toInt ∧ y75.toInt ≤ 3 := by rw [← m76]; exact th_iv hW rh0 (by decide) (by decide) rfl
      obtain ⟨y78, m79⟩ : ∃ x : Int32, oI (f64 h0) 18 = x := ⟨_, rfl⟩
      have b80 : (0 : Int) ≤ y78.toInt ∧ y78.toInt ≤ 1 := by rw [← m79]; exact th_iv hW rh0 (by decide) (by decide) rfl
      obtain ⟨y81, m82⟩ : ∃ x : Int64, oJ (f64 h0) 16 = x := ⟨_, rfl⟩
      simp only [((fm_I g66 rh0 rfl).trans ((fm_I g35 rh0 rfl).trans mF12)), ((fm_I g35 rh0 rfl).trans mF12), m70, ((fm_I g35 rh0 rfl).trans mF13), m73, ((fm_I g35 rh0 rfl).trans mF14), m76, ((fm_I g35 rh0 rfl).trans m6), m79, ((fm_I g35 rh0 rfl).trans mF18), m82, ((fm_J g35 rh0 rfl).trans m31)] at h67
      refine lv_iload hx hb dX12_number_36 (lv_at hl 0 rfl) ?_
      exact e_I E hW rfl ⟨⟨_, rfl, trivial⟩, hF, (by intro r hr; cases hr; simp only [((fm_I g66 rh0 rfl).trans ((fm_I g35 rh0 rfl).trans mF12)), mF12, m70, mF13, m73, mF14, m76, mF15, m79, mF18, m82, mW, and_true, true_and, true_or, or_true, false_or, or_false] <;> omega)⟩ dX12_number_38
def ms_X12_emit : List (Nat × Nat) := [(12, 21), (842, 0), (843, 0)]
def po_X12_emit (kp : Nat → Nat) (L : List Nat) (f0 : Nat → va_E) (h0 : Nat) (u1 : Int32) (u2 : Int32) : Option Value → (Nat → va_E) → Prop := fun v f => v = none ∧ FM kp L ms_X12_emit f0 f ∧ ((oI (f h0) 21).toInt = (oI (f0 h0) 21).toInt + 1) ∧ (vO f h0 = upd (vO f0 h0) (oI (f0 h0) 21).toNatClampNeg u1 ∧ vA f h0 = upd (vA f0 h0) (oI (f0 h0) 21).toNatClampNeg u2 ∧ (oI (f h0) 21).toInt = (oI (f0 h0) 21).toInt + 1)
set_option maxHeartbeats 4000000 in
set_option maxRecDepth 100000 in
theorem c_X12_emit (l : Launch) (G : va_G) (cI cJ cZ cD cR cT : ClassId) (kp : Nat → Nat) (L : List Nat) (f0 : Nat → va_E) (hTH : TH cI cJ cZ cD cR cT kp L f0) (sz : Nat) (h0 : Nat) (u1 : Int32) (u2 : Int32) (rh0 : RK kp L h0 12) (hq : (oI (f0 h0) 21).toInt ≤ 399) : Met l yX12_emit (Cond.code yX12_emit cX12_emit 3 none :: wTab) ({ frames := 1, cells := 0, slots := 0, locals := 40 }) (va_Pc [.ref h0, .int u1, .int u2] (PreW G (tys6 cI cJ cZ cD cR cT) (va_pl L f0) sz)) (QT (po_X12_emit kp L f0 h0 u1 u2) G cI cJ cZ cD cR cT (va_A (va_pl L f0) sz) kp L) 0 0 (va_A (va_pl L f0) sz) := by
  refine metT (by decide) (Nat.le_of_ble_eq_true rfl) hTH ?_
  intro p e s m below meth c A ls E hW hl
  obtain ⟨hx, hb, -, hml, hown, hts, -, -, -⟩ := id E
  have hF : FM kp L ms_X12_emit f0 f0 := FM.rf
  have hl : lv_has ls 3 [(0, .ref h0), (1, .int u1), (2, .int u2)] := hl
  obtain ⟨pF12, mF12⟩ : ∃ x : Int32, oI (f0 h0) 12 = x := ⟨_, rfl⟩
  have bF12 : (0 : Int) ≤ pF12.toInt ∧ pF12.toInt ≤ 400 := by rw [← mF12]; exact th_iv hW rh0 (by decide) (by decide) rfl
  obtain ⟨pF13, mF13⟩ : ∃ x : Int32, oI (f0 h0) 13 = x := ⟨_, rfl⟩
  have bF13 : (0 : Int) ≤ pF13.toInt ∧ pF13.toInt ≤ 400 := by rw [← mF13]; exact th_iv hW rh0 (by decide) (by decide) rfl
  obtain ⟨pF14, mF14⟩ : ∃ x : Int32, oI (f0 h0) 14 = x := ⟨_, rfl⟩
  have bF14 : (0 : Int) ≤ pF14.toInt ∧ pF14.toInt ≤ 400 := by rw [← mF14]; exact th_iv hW rh0 (by decide) (by decide) rfl
  obtain ⟨pF15, mF15⟩ : ∃ x : Int32, oI (f0 h0) 15 = x := ⟨_, rfl⟩
  have bF15 : (0 : Int) ≤ pF15.toInt ∧ pF15.toInt ≤ 3 := by rw [← mF15]; exact th_iv hW rh0 (by decide) (by decide) rfl
  obtain ⟨pF18, mF18⟩ : ∃ x : Int32, oI (f0 h0) 18 = x := ⟨_, rfl⟩
  have bF18 : (0 : Int) ≤ pF18.toInt ∧ pF18.toInt ≤ 1 := by rw [← mF18]; exact th_iv hW rh0 (by decide) (by decide) rfl
  obtain ⟨pF21, mF21⟩ : ∃ x : Int32, oI (f0 h0) 21 = x := ⟨_, rfl⟩
  have bF21 : (0 : Int) ≤ pF21.toInt ∧ pF21.toInt ≤ 400 := by rw [← mF21]; exact th_iv hW rh0 (by decide) (by decide) rfl
  obtain ⟨pF24, mF24⟩ : ∃ x : Int32, oI (f0 h0) 24 = x := ⟨_, rfl⟩
  have bF24 : (0 : Int) ≤ pF24.toInt ∧ pF24.toInt ≤ 50 := by rw [← mF24]; exact th_iv hW rh0 (by decide) (by decide) rfl
  obtain ⟨pF27, mF27⟩ : ∃ x : Int32, oI (f0 h0) 27 = x := ⟨_, rfl⟩
  have bF27 : (0 : Int) ≤ pF27.toInt ∧ pF27.toInt ≤ 400 := by rw [← mF27]; exact th_iv hW rh0 (by decide) (by decide) rfl
  obtain ⟨pW, mW⟩ : ∃ x : Int64, oJ (f0 h0) 16 = x := ⟨_, rfl⟩
  simp only [mF12, mF13, mF14, mF15, mF18, mF21, mF24, mF27, mW] at hq
  obtain ⟨pR, mR⟩ : ∃ x : Nat, oR (f0 h0) 2 = x := ⟨_, rfl⟩
  have rR : RK kp L pR 822 := by rw [← mR]; exact th_ref hTH rh0 (by decide) (by decide) rfl
  obtain ⟨pA, mA⟩ : ∃ x : Nat, oR (f0 h0) 22 = x := ⟨_, rfl⟩
  have rA : RK kp L pA 842 := by rw [← mA]; exact th_ref hTH rh0 (by decide) (by decide) rfl
  obtain ⟨pB, mB⟩ : ∃ x : Nat, oR (f0 h0) 23 = x := ⟨_, rfl⟩
  have rB : RK kp L pB 843 := by rw [← mB]; exact th_ref hTH rh0 (by decide) (by decide) rfl
  refine lv_aload_n hx hb dX12_emit_0 rfl (lv_at hl 0 rfl) ?_
  refine fg_RX12_42 E hW rh0 dX12_emit_1 (fun a1 m2 r3 => ?_)
  obtain rfl : pA = a1 := (mA).symm.trans m2
  refine lv_aload_n hx hb dX12_emit_4 rfl (lv_at hl 0 rfl) ?_
  refine fg_RX12_229 E hW rh0 dX12_emit_5 (fun y4 m5 b6 => ?_)
  obtain rfl : pF21 = y4 := (mF21).symm.trans m5
  refine lv_iload_n hx hb dX12_emit_8 rfl (lv_at hl 1 rfl) ?_
  refine gs_842 E hW rA ⟨by omega, by omega⟩ dX12_emit_9 (fun f7 H locs e8 n9 g10 hW => ?_)
  have hF := FM.tr hF g10 rfl
  have z11 : aI (f7 pA) = upd (aI (f0 pA)) (pF21 : Int32).toNatClampNeg u1 := by rw [e8]
  refine lv_aload_n hx hb dX12_emit_10 rfl (lv_at hl 0 rfl) ?_
  refine fg_RX12_45 E hW rh0 dX12_emit_11 (fun a12 m13 r14 => ?_)
  obtain rfl : pB = a12 := (((fm_R g10 rh0 rfl).trans mB)).symm.trans m13
  refine lv_aload_n hx hb dX12_emit_14 rfl (lv_at hl 0 rfl) ?_
  refine fg_RX12_229 E hW rh0 dX12_emit_15 (fun y15 m16 b17 => ?_)
  obtain rfl : pF21 = y15 := (((fm_I g10 rh0 rfl).trans m5)).symm.trans m16
  refine lv_iload_n hx hb dX12_emit_18 rfl (lv_at hl 2 rfl) ?_
  refine gs_843 E hW rB ⟨by omega, by omega⟩ dX12_emit_19 (fun f18 H locs e19 n20 g21 hW => ?_)
  have hF := FM.tr hF g21 rfl
  have z22 : aI (f18 pB) = upd (aI (f0 pB)) (pF21 : Int32).toNatClampNeg u2 := by rw [e19, ((congrArg aI (fm_A g10 rB (by decide) rfl)).trans rfl)]
  refine lv_aload_n hx hb dX12_emit_20 rfl (lv_at hl 0 rfl) ?_
  refine lv_dup hx hb dX12_emit_21 rfl ?_
  refine fg_RX12_229 E hW rh0 dX12_emit_22 (fun y23 m24 b25 => ?_)
  obtain rfl : pF21 = y23 := (((fm_I g21 rh0 rfl).trans m16)).symm.trans m24
  refine lv_iconst (v := 1) hx hb dX12_emit_25 (by decide) ?_
  refine q_iadd (Y := 1) hx hb dX12_emit_26 rfl rfl (by omega) (fun x26 h27 => ?_)
  refine fp_RX12_229 E hW rh0 (by omega) dX12_emit_27 (fun f28 H locs e29 n30 g31 hW => ?_)
  have m32 : aI (f28 pA) (pF21 : Int32).toNatClampNeg = u1 := ((congrArg (fun z => aI z (pF21 : Int32).toNatClampNeg) (fm_A g31 rA (by decide) rfl)).trans ((congrArg (fun z => aI z (pF21 : Int32).toNatClampNeg) (fm_A g21 rA (by decide) rfl)).trans (show aI (f7 pA) (pF21 : Int32).toNatClampNeg = u1 from by rw [e8]; exact up_s)))
  have hF := FM.tr hF g31 rfl
  exact e_V E hW rfl ⟨rfl, hF, (by simp only [e29, mF21, and_true, true_and, true_or, or_true, false_or, or_false] <;> omega), ⟨by unfold vO; rw [((fm_R g31 rh0 rfl).trans ((fm_R g21 rh0 rfl).trans ((fm_R g10 rh0 rfl).trans m2))), mA, mF21, ((congrArg aI (fm_A g31 rA (by decide) rfl)).trans ((congrArg aI (fm_A g21 rA (by decide) rfl)).trans rfl))]; exact z11, by unfold vA; rw [((fm_R g31 rh0 rfl).trans ((fm_R g21 rh0 rfl).trans m13)), mB, mF21, ((congrArg aI (fm_A g31 rB (by decide) rfl)).trans rfl)]; exact z22, by rw [e29, mF21]; omega⟩⟩ dX12_emit_30
def ms_X12_push : List (Nat × Nat) := [(12, 27), (845, 0), (846, 0)]
def po_X12_push (kp : Nat → Nat) (L : List Nat) (f0 : Nat → va_E) (h0 : Nat) (u1 : Int32) (u2 : Int32) : Option Value → (Nat → va_E) → Prop := fun v f => v = none ∧ FM kp L ms_X12_push f0 f ∧ ((oI (f h0) 27).toInt = (oI (f0 h0) 27).toInt + 1) ∧ (vP f h0 = upd (vP f0 h0) (oI (f0 h0) 27).toNatClampNeg u1 ∧ vT f h0 = upd (vT f0 h0) (oI (f0 h0) 27).toNatClampNeg u2 ∧ (oI (f h0) 27).toInt = (oI (f0 h0) 27).toInt + 1)
set_option maxHeartbeats 4000000 in
set_option maxRecDepth 100000 in
theorem c_X12_push (l : Launch) (G : va_G) (cI cJ cZ cD cR cT : ClassId) (kp : Nat → Nat) (L : List Nat) (f0 : Nat → va_E) (hTH : TH cI cJ cZ cD cR cT kp L f0) (sz : Nat) (h0 : Nat) (u1 : Int32) (u2 : Int32) (rh0 : RK kp L h0 12) (pu1 : (20 : Int) ≤ u1.toInt ∧ u1.toInt ≤ 31) (pu2 : (0 : Int) ≤ u2.toInt ∧ u2.toInt ≤ 399) (hq : (oI (f0 h0) 27).toInt ≤ 399) : Met l yX12_push (Cond.code yX12_push cX12_push 3 none :: wTab) ({ frames := 1, cells := 0, slots := 0, locals := 40 }) (va_Pc [.ref h0, .int u1, .int u2] (PreW G (tys6 cI cJ cZ cD cR cT) (va_pl L f0) sz)) (QT (po_X12_push kp L f0 h0 u1 u2) G cI cJ cZ cD cR cT (va_A (va_pl L f0) sz) kp L) 0 0 (va_A (va_pl L f0) sz) := by
  refine metT (by decide) (Nat.le_of_ble_eq_true rfl) hTH ?_
  intro p e s m below meth c A ls E hW hl
  obtain ⟨hx, hb, -, hml, hown, hts, -, -, -⟩ := id E
  have hF : FM kp L ms_X12_push f0 f0 := FM.rf
  have hl : lv_has ls 3 [(0, .ref h0), (1, .int u1), (2, .int u2)] := hl
  obtain ⟨pF12, mF12⟩ : ∃ x : Int32, oI (f0 h0) 12 = x := ⟨_, rfl⟩
  have bF12 : (0 : Int) ≤ pF12.toInt ∧ pF12.toInt ≤ 400 := by rw [← mF12]; exact th_iv hW rh0 (by decide) (by decide) rfl
  obtain ⟨pF13, mF13⟩ : ∃ x : Int32, oI (f0 h0) 13 = x := ⟨_, rfl⟩
  have bF13 : (0 : Int) ≤ pF13.toInt ∧ pF13.toInt ≤ 400 := by rw [← mF13]; exact th_iv hW rh0 (by decide) (by decide) rfl
  obtain ⟨pF14, mF14⟩ : ∃ x : Int32, oI (f0 h0) 14 = x := ⟨_, rfl⟩
  have bF14 : (0 : Int) ≤ pF14.toInt ∧ pF14.toInt ≤ 400 := by rw [← mF14]; exact th_iv hW rh0 (by decide) (by decide) rfl
  obtain ⟨pF15, mF15⟩ : ∃ x : Int32, oI (f0 h0) 15 = x := ⟨_, rfl⟩
  have bF15 : (0 : Int) ≤ pF15.toInt ∧ pF15.toInt ≤ 3 := by rw [← mF15]; exact th_iv hW rh0 (by decide) (by decide) rfl
  obtain ⟨pF18, mF18⟩ : ∃ x : Int32, oI (f0 h0) 18 = x := ⟨_, rfl⟩
  have bF18 : (0 : Int) ≤ pF18.toInt ∧ pF18.toInt ≤ 1 := by rw [← mF18]; exact th_iv hW rh0 (by decide) (by decide) rfl
  obtain ⟨pF21, mF21⟩ : ∃ x : Int32, oI (f0 h0) 21 = x := ⟨_, rfl⟩
  have bF21 : (0 : Int) ≤ pF21.toInt ∧ pF21.toInt ≤ 400 := by rw [← mF21]; exact th_iv hW rh0 (by decide) (by decide) rfl
  obtain ⟨pF24, mF24⟩ : ∃ x : Int32, oI (f0 h0) 24 = x := ⟨_, rfl⟩
  have bF24 : (0 : Int) ≤ pF24.toInt ∧ pF24.toInt ≤ 50 := by rw [← mF24]; exact th_iv hW rh0 (by decide) (by decide) rfl
  obtain ⟨pF27, mF27⟩ : ∃ x : Int32, oI (f0 h0) 27 = x := ⟨_, rfl⟩
  have bF27 : (0 : Int) ≤ pF27.toInt ∧ pF27.toInt ≤ 400 := by rw [← mF27]; exact th_iv hW rh0 (by decide) (by decide) rfl
  obtain ⟨pW, mW⟩ : ∃ x : Int64, oJ (f0 h0) 16 = x := ⟨_, rfl⟩
  simp only [mF12, mF13, mF14, mF15, mF18, mF21, mF24, mF27, mW] at hq
  obtain ⟨pR, mR⟩ : ∃ x : Nat, oR (f0 h0) 2 = x := ⟨_, rfl⟩
  have rR : RK kp L pR 822 := by rw [← mR]; exact th_ref hTH rh0 (by decide) (by decide) rfl
  obtain ⟨pA, mA⟩ : ∃ x : Nat, oR (f0 h0) 25 = x := ⟨_, rfl⟩
  have rA : RK kp L pA 845 := by rw [← mA]; exact th_ref hTH rh0 (by decide) (by decide) rfl
  obtain ⟨pB, mB⟩ : ∃ x : Nat, oR (f0 h0) 26 = x := ⟨_, rfl⟩
  have rB : RK kp L pB 846 := by rw [← mB]; exact th_ref hTH rh0 (by decide) (by decide) rfl
  refine lv_aload_n hx hb dX12_push_0 rfl (lv_at hl 0 rfl) ?_
  refine fg_RX12_48 E hW rh0 dX12_push_1 (fun a1 m2 r3 => ?_)
  obtain rfl : pA = a1 := (mA).symm.trans m2
  refine lv_aload_n hx hb dX12_push_4 rfl (lv_at hl 0 rfl) ?_
  refine fg_RX12_232 E hW rh0 dX12_push_5 (fun y4 m5 b6 => ?_)
  obtain rfl : pF27 = y4 := (mF27).symm.trans m5
  refine lv_iload_n hx hb dX12_push_8 rfl (lv_at hl 1 rfl) ?_
  refine gs_845 E hW rA ⟨by omega, by omega⟩ dX12_push_9 (fun f7 H locs e8 n9 g10 hW => ?_)
  have hF := FM.tr hF g10 rfl
  have z11 : aI (f7 pA) = upd (aI (f0 pA)) (pF27 : Int32).toNatClampNeg u1 := by rw [e8]
  refine lv_aload_n hx hb dX12_push_10 rfl (lv_at hl 0 rfl) ?_
  refine fg_RX12_51 E hW rh0 dX12_push_11 (fun a12 m13 r14 => ?_)
  obtain rfl : pB = a12 := (((fm_R g10 rh0 rfl).trans mB)).symm.trans m13
  refine lv_aload_n hx hb dX12_push_14 rfl (lv_at hl 0 rfl) ?_
  refine fg_RX12_232 E hW rh0 dX12_push_15 (fun y15 m16 b17 => ?_)
  obtain rfl : pF27 = y15 := (((fm_I g10 rh0 rfl).trans m5)).symm.trans m16
  refine lv_iload_n hx hb dX12_push_18 rfl (lv_at hl 2 rfl) ?_
  refine gs_846 E hW rB ⟨by omega, by omega⟩ (by omega) dX12_push_19 (fun f18 H locs e19 n20 g21 hW => ?_)
  have hF := FM.tr hF g21 rfl
  have z22 : aI (f18 pB) = upd (aI (f0 pB)) (pF27 : Int32).toNatClampNeg u2 := by rw [e19, ((congrArg aI (fm_A g10 rB (by decide) rfl)).trans rfl)]
  refine lv_aload_n hx hb dX12_push_20 rfl (lv_at hl 0 rfl) ?_
  refine lv_dup hx hb dX12_push_21 rfl ?_
  refine fg_RX12_232 E hW rh0 dX12_push_22 (fun y23 m24 b25 => ?_)
  obtain rfl : pF27 = y23 := (((fm_I g21 rh0 rfl).trans m16)).symm.trans m24
  refine lv_iconst (v := 1) hx hb dX12_push_25 (by decide) ?_
  refine q_iadd (Y := 1) hx hb dX12_push_26 rfl rfl (by omega) (fun x26 h27 => ?_)
  refine fp_RX12_232 E hW rh0 (by omega) dX12_push_27 (fun f28 H locs e29 n30 g31 hW => ?_)
  have m32 : aI (f28 pA) (pF27 : Int32).toNatClampNeg = u1 := ((congrArg (fun z => aI z (pF27 : Int32).toNatClampNeg) (fm_A g31 rA (by decide) rfl)).trans ((congrArg (fun z => aI z (pF27 : Int32).toNatClampNeg) (fm_A g21 rA (by decide) rfl)).trans (show aI (f7 pA) (pF27 : Int32).toNatClampNeg = u1 from by rw [e8]; exact up_s)))
  have hF := FM.tr hF g31 rfl
  exact e_V E hW rfl ⟨rfl, hF, (by simp only [e29, mF27, and_true, true_and, true_or, or_true, false_or, or_false] <;> omega), ⟨by unfold vP; rw [((fm_R g31 rh0 rfl).trans ((fm_R g21 rh0 rfl).trans ((fm_R g10 rh0 rfl).trans m2))), mA, mF27, ((congrArg aI (fm_A g31 rA (by decide) rfl)).trans ((congrArg aI (fm_A g21 rA (by decide) rfl)).trans rfl))]; exact z11, by unfold vT; rw [((fm_R g31 rh0 rfl).trans ((fm_R g21 rh0 rfl).trans m13)), mB, mF27, ((congrArg aI (fm_A g31 rB (by decide) rfl)).trans rfl)]; exact z22, by rw [e29, mF27]; omega⟩⟩ dX12_push_30
def ms_X12_binds : List (Nat × Nat) := []
def po_X12_binds (kp : Nat → Nat) (L : List Nat) (f0 : Nat → va_E) (u1 : Int32) : Option Value → (Nat → va_E) → Prop := fun v f => (∃ r : Int32, v = some (.int r) ∧ (r.toInt = bnI u1.toInt ∧ 0 ≤ r.toInt ∧ r.toInt ≤ 6)) ∧ FM kp L ms_X12_binds f0 f
set_option maxHeartbeats 4000000 in
set_option maxRecDepth 100000 in
theorem c_X12_binds (l : Launch) (G : va_G) (cI cJ cZ cD cR cT : ClassId) (kp : Nat → Nat) (L : List Nat) (f0 : Nat → va_E) (hTH : TH cI cJ cZ cD cR cT kp L f0) (sz : Nat) (u1 : Int32) : Met l yX12_binds (Cond.code yX12_binds cX12_binds 1 (some .int) :: wTab) ({ frames := 1, cells := 0, slots := 0, locals := 40 }) (va_Pc [.int u1] (PreW G (tys6 cI cJ cZ cD cR cT) (va_pl L f0) sz)) (QT (po_X12_binds kp L f0 u1) G cI cJ cZ cD cR cT (va_A (va_pl L f0) sz) kp L) 0 0 (va_A (va_pl L f0) sz) := by
  refine metT (by decide) (Nat.le_of_ble_eq_true rfl) hTH ?_
  intro p e s m below meth c A ls E hW hl
  obtain ⟨hx, hb, -, hml, hown, hts, -, -, -⟩ := id E
  have hF : FM kp L ms_X12_binds f0 f0 := FM.rf
  have hl : lv_has ls 1 [(0, .int u1)] := hl
  refine lv_iload_n hx hb dX12_binds_0 rfl (lv_at hl 0 rfl) ?_
  refine lv_bipush (v := 30) hx hb dX12_binds_1 (by decide) ?_
  refine q_icmp_lt (Y := 30) (tgt := 10) hx hb dX12_binds_3 (by decide) rfl rfl (fun c1 => ?_) (fun c1 => ?_)
  · refine lv_iload_n hx hb dX12_binds_10 rfl (lv_at hl 0 rfl) ?_
    refine lv_bipush (v := 29) hx hb dX12_binds_11 (by decide) ?_
    refine q_icmp_ne (Y := 29) (tgt := 20) hx hb dX12_binds_13 (by decide) rfl rfl (fun c2 => ?_) (fun c2 => ?_)
    · refine lv_iload_n hx hb dX12_binds_20 rfl (lv_at hl 0 rfl) ?_
      refine lv_bipush (v := 28) hx hb dX12_binds_21 (by decide) ?_
      refine q_icmp_ne (Y := 28) (tgt := 30) hx hb dX12_binds_23 (by decide) rfl rfl (fun c3 => ?_) (fun c3 => ?_)
      · refine lv_iload_n hx hb dX12_binds_30 rfl (lv_at hl 0 rfl) ?_
        refine lv_bipush (v := 27) hx hb dX12_binds_31 (by decide) ?_
        refine q_icmp_ne (Y := 27) (tgt := 40) hx hb dX12_binds_33 (by decide) rfl rfl (fun c4 => ?_) (fun c4 => ?_)
        · refine lv_iload_n hx hb dX12_binds_40 rfl (lv_at hl 0 rfl) ?_
          refine lv_bipush (v := 24) hx hb dX12_binds_41 (by decide) ?_
          refine q_icmp_lt (Y := 24) (tgt := 50) hx hb dX12_binds_43 (by decide) rfl rfl (fun c5 => ?_) (fun c5 => ?_)
          · refine lv_iload_n hx hb dX12_binds_50 rfl (lv_at hl 0 rfl) ?_
            refine lv_bipush (v := 22) hx hb dX12_binds_51 (by decide) ?_
            refine q_icmp_lt (Y := 22) (tgt := 61) hx hb dX12_binds_53 (by decide) rfl rfl (fun c6 => ?_) (fun c6 => ?_)
            · refine lv_iconst (v := 5) hx hb dX12_binds_61 (by decide) ?_
              exact e_I E hW rfl ⟨⟨_, rfl, (by have hk : (5 : Int32).toInt = 5 := rfl; rw [hk]; unfold bnI; refine ⟨?_, by omega, by omega⟩; simp only [*, if_true, if_false] <;> first | rfl | (repeat first | rw [if_pos (by omega)] | rw [if_neg (by omega)]))⟩, hF⟩ dX12_binds_62
            · refine lv_bipush (v := 6) hx hb dX12_binds_56 (by decide) ?_
              refine lv_goto (tgt := 62) hx hb dX12_binds_58 (by decide) ?_
              exact e_I E hW rfl ⟨⟨_, rfl, (by have hk : (6 : Int32).toInt = 6 := rfl; rw [hk]; unfold bnI; refine ⟨?_, by omega, by omega⟩; simp only [*, if_true, if_false] <;> first | rfl | (repeat first | rw [if_pos (by omega)] | rw [if_neg (by omega)]))⟩, hF⟩ dX12_binds_62
          · refine lv_iconst (v := 4) hx hb dX12_binds_46 (by decide) ?_
            refine lv_goto (tgt := 62) hx hb dX12_binds_47 (by decide) ?_
            exact e_I E hW rfl ⟨⟨_, rfl, (by have hk : (4 : Int32).toInt = 4 := rfl; rw [hk]; unfold bnI; refine ⟨?_, by omega, by omega⟩; simp only [*, if_true, if_false] <;> first | rfl | (repeat first | rw [if_pos (by omega)] | rw [if_neg (by omega)]))⟩, hF⟩ dX12_binds_62
        · refine lv_iconst (v := 3) hx hb dX12_binds_36 (by decide) ?_
          refine lv_goto (tgt := 62) hx hb dX12_binds_37 (by decide) ?_
          exact e_I E hW rfl ⟨⟨_, rfl, (by have hk : (3 : Int32).toInt = 3 := rfl; rw [hk]; unfold bnI; refine ⟨?_, by omega, by omega⟩; simp only [*, if_true, if_false] <;> first | rfl | (repeat first | rw [if_pos (by omega)] | rw [if_neg (by omega)]))⟩, hF⟩ dX12_binds_62
      · refine lv_iconst (v := 2) hx hb dX12_binds_26 (by decide) ?_
        refine lv_goto (tgt := 62) hx hb dX12_binds_27 (by decide) ?_
        exact e_I E hW rfl ⟨⟨_, rfl, (by have hk : (2 : Int32).toInt = 2 := rfl; rw [hk]; unfold bnI; refine ⟨?_, by omega, by omega⟩; simp only [*, if_true, if_false] <;> first | rfl | (repeat first | rw [if_pos (by omega)] | rw [if_neg (by omega)]))⟩, hF⟩ dX12_binds_62
    · refine lv_iconst (v := 1) hx hb dX12_binds_16 (by decide) ?_
      refine lv_goto (tgt := 62) hx hb dX12_binds_17 (by decide) ?_
      exact e_I E hW rfl ⟨⟨_, rfl, (by have hk : (1 : Int32).toInt = 1 := rfl; rw [hk]; unfold bnI; refine ⟨?_, by omega, by omega⟩; simp only [*, if_true, if_false] <;> first | rfl | (repeat first | rw [if_pos (by omega)] | rw [if_neg (by omega)]))⟩, hF⟩ dX12_binds_62
  · refine lv_iconst (v := 0) hx hb dX12_binds_6 (by decide) ?_
    refine lv_goto (tgt := 62) hx hb dX12_binds_7 (by decide) ?_
    exact e_I E hW rfl ⟨⟨_, rfl, (by have hk : (0 : Int32).toInt = 0 := rfl; rw [hk]; unfold bnI; refine ⟨?_, by omega, by omega⟩; simp only [*, if_true, if_false] <;> first | rfl | (repeat first | rw [if_pos (by omega)] | rw [if_neg (by omega)]))⟩, hF⟩ dX12_binds_62
def ms_X12_settle : List (Nat × Nat) := [(12, 21), (12, 27), (842, 0), (843, 0)]
def po_X12_settle (kp : Nat → Nat) (L : List Nat) (f0 : Nat → va_E) (h0 : Nat) (u1 : Int32) : Option Value → (Nat → va_E) → Prop := fun v f => v = none ∧ FM kp L ms_X12_settle f0 f ∧ (0 ≤ (oI (f h0) 27).toInt ∧ (oI (f h0) 27).toInt ≤ (oI (f0 h0) 27).toInt ∧ (oI (f h0) 21).toInt + (oI (f h0) 27).toInt ≤ (oI (f0 h0) 21).toInt + (oI (f0 h0) 27).toInt ∧ (oI (f0 h0) 21).toInt ≤ (oI (f h0) 21).toInt) ∧ (GS f0 f h0 ∧ vP f h0 = vP f0 h0 ∧ (0 ≤ (oI (f h0) 27).toInt ∧ (oI (f h0) 27).toInt ≤ (oI (f0 h0) 27).toInt) ∧ ((oI (f h0) 27).toInt = 0 ∨ bnI (vP f0 h0 ((oI (f h0) 27).toInt - 1).toNat).toInt < u1.toInt) ∧ (∀ k : Nat, (oI (f h0) 27).toInt ≤ (k : Int) → (k : Int) < (oI (f0 h0) 27).toInt → u1.toInt ≤ bnI (vP f0 h0 k).toInt))
set_option maxHeartbeats 4000000 in
set_option maxRecDepth 100000 in
theorem c_X12_settle (l : Launch) (G : va_G) (cI cJ cZ cD cR cT : ClassId) (kp : Nat → Nat) (L : List Nat) (f0 : Nat → va_E) (hTH : TH cI cJ cZ cD cR cT kp L f0) (sz : Nat) (h0 : Nat) (u1 : Int32) (rh0 : RK kp L h0 12) (pu1 : (1 : Int) ≤ u1.toInt ∧ u1.toInt ≤ 6) (hq : (oI (f0 h0) 21).toInt + (oI (f0 h0) 27).toInt ≤ 400 ∧ 1 ≤ u1.toInt) : Met l yX12_settle (Cond.code yX12_settle cX12_settle 2 none :: wTab) ({ frames := 2, cells := 0, slots := 0, locals := 62 }) (va_Pc [.ref h0, .int u1] (PreW G (tys6 cI cJ cZ cD cR cT) (va_pl L f0) sz)) (QT (po_X12_settle kp L f0 h0 u1) G cI cJ cZ cD cR cT (va_A (va_pl L f0) sz) kp L) 0 0 (va_A (va_pl L f0) sz) := by
  refine metT (by decide) (Nat.le_of_ble_eq_true rfl) hTH ?_
  intro p e s m below meth c A ls E hW hl
  obtain ⟨hx, hb, -, hml, hown, hts, -, -, -⟩ := id E
  have hF : FM kp L ms_X12_settle f0 f0 := FM.rf
  have hl : lv_has ls 2 [(0, .ref h0), (1, .int u1)] := hl
  obtain ⟨pF21, mF21⟩ : ∃ x : Int32, oI (f0 h0) 21 = x := ⟨_, rfl⟩
  have bF21 : (0 : Int) ≤ pF21.toInt ∧ pF21.toInt ≤ 400 := by rw [← mF21]; exact th_iv hW rh0 (by decide) (by decide) rfl
  obtain ⟨pF27, mF27⟩ : ∃ x : Int32, oI (f0 h0) 27 = x := ⟨_, rfl⟩
  have bF27 : (0 : Int) ≤ pF27.toInt ∧ pF27.toInt ≤ 400 := by rw [← mF27]; exact th_iv hW rh0 (by decide) (by decide) rfl
  obtain ⟨pW, mW⟩ : ∃ x : Int64, oJ (f0 h0) 16 = x := ⟨_, rfl⟩
  simp only [mF21, mF27, mW] at hq
  obtain ⟨pR, mR⟩ : ∃ x : Nat, oR (f0 h0) 2 = x := ⟨_, rfl⟩
  have rR : RK kp L pR 822 := by rw [← mR]; exact th_ref hTH rh0 (by decide) (by decide) rfl
  obtain ⟨pQ, mQ⟩ : ∃ x : Nat, oR (f0 h0) 25 = x := ⟨_, rfl⟩
  have rQ : RK kp L pQ 845 := by rw [← mQ]; exact th_ref hTH rh0 (by decide) (by decide) rfl
  obtain ⟨pT, mT⟩ : ∃ x : Nat, oR (f0 h0) 26 = x := ⟨_, rfl⟩
  have rT : RK kp L pT 846 := by rw [← mT]; exact th_ref hTH rh0 (by decide) (by decide) rfl
  obtain ⟨pB, mB⟩ : ∃ x : Nat, oR (f0 h0) 23 = x := ⟨_, rfl⟩
  have rB : RK kp L pB 843 := by rw [← mB]; exact th_ref hTH rh0 (by decide) (by decide) rfl
  have L145 : ∀ (n : Nat), ∀ (f130 : Nat → va_E) (y136 : Int32) (y139 : Int32) (m131 : oR (f130 h0) 2 = pR) (m132 : oJ (f130 h0) 16 = pW) (m133 : oR (f130 h0) 23 = pB) (m134 : oR (f130 h0) 25 = pQ) (m135 : oR (f130 h0) 26 = pT) (m137 : oI (f130 h0) 21 = y136) (b138 : (0 : Int) ≤ y136.toInt ∧ y136.toInt ≤ 400) (m140 : oI (f130 h0) 27 = y139) (b141 : (0 : Int) ≤ y139.toInt ∧ y139.toInt ≤ 400) (v142 : GS f0 f130 h0) (v143 : ∀ k : Nat, y139.toInt ≤ (k : Int) → (k : Int) < pF27.toInt → u1.toInt ≤ bnI (aI (f0 pQ) k).toInt) (v144 : y139.toInt ≤ pF27.toInt ∧ y136.toInt + y139.toInt ≤ pF21.toInt + pF27.toInt ∧ pF21.toInt ≤ y136.toInt) (hm : y139.toInt - (-1 : Int) ≤ n) (H : Heap) (locs : List Loc) (ls : Array Slot), WS G cI cJ cZ cD cR cT A kp L f130 s H locs → FM kp L ms_X12_settle f0 f130 → lv_has ls 2 [(0, .ref h0), (1, .int u1)] → W p l e ({ frames := 2, cells := 0, slots := 0, locals := 62 }) s m ([.ref h0, .int u1] : List Value).toArray below meth c H locs 0 0 (MQ below (QT (po_X12_settle kp L f0 h0 u1) G cI cJ cZ cD cR cT A kp L) ([.ref h0, .int u1] : List Value).toArray s 0 0 A) (F0 m 0 ls []) := by
    intro n
    induction n with
    | zero =>
      intro f130 y136 y139 m131 m132 m133 m134 m135 m137 b138 m140 b141 v142 v143 v144 hm H locs ls hW hF hl
      have hz := i32_b y139
      exfalso; omega
    | succ n ih =>
      intro f130 y136 y139 m131 m132 m133 m134 m135 m137 b138 m140 b141 v142 v143 v144 hm H locs ls hW hF hl
      have ih0 := ih
      refine lv_aload_n hx hb dX12_settle_0 rfl (lv_at hl 0 rfl) ?_
      refine fg_RX12_232 E hW rh0 dX12_settle_1 (fun y146 m147 b148 => ?_)
      obtain rfl : y139 = y146 := (m140).symm.trans m147
      refine q_if_le (tgt := 101) hx hb dX12_settle_4 (by decide) rfl (fun c149 => ?_) (fun c149 => ?_)
      · exact e_V E hW rfl ⟨rfl, hF, (by simp only [m137, mF21, m147, mF27, and_true, true_and, true_or, or_true, false_or, or_false] <;> omega), ⟨v142, (by unfold vP; rw [m134, mQ, fm_A hF rQ (by decide) rfl]), by rw [m147, mF27]; omega, (Or.inl (by rw [m147]; omega)), by rw [m147, mF27]; unfold vP; rw [mQ]; exact v143⟩⟩ dX12_settle_101
      · refine lv_aload_n hx hb dX12_settle_7 rfl (lv_at hl 0 rfl) ?_
        refine fg_RX12_48 E hW rh0 dX12_settle_8 (fun a150 m151 r152 => ?_)
        obtain rfl : pQ = a150 := (m134).symm.trans m151
        refine lv_aload_n hx hb dX12_settle_11 rfl (lv_at hl 0 rfl) ?_
        refine fg_RX12_232 E hW rh0 dX12_settle_12 (fun y153 m154 b155 => ?_)
        obtain rfl : y139 = y153 := (m147).symm.trans m154
        refine lv_iconst (v := 1) hx hb dX12_settle_15 (by decide) ?_
        refine q_isub (Y := 1) hx hb dX12_settle_16 rfl rfl (by omega) (fun x156 h157 => ?_)
        refine gl_845 E hW rQ ⟨by omega, by omega⟩ dX12_settle_17 (fun y158 m159 => ?_)
        have hw164 := hW.2.2.2
        refine t_callS (As := [.int y158]) (rest := []) E hW (c_X12_binds l G cI cJ cZ cD cR cT kp L f130 hW.2.2.2 _ y158) wk_X12_binds tw_1879 rfl ⟨Nat.le_of_ble_eq_true rfl, Nat.le_of_ble_eq_true rfl⟩ ⟨rfl, rfl⟩ hl.1 rfl (Nat.le_of_ble_eq_true rfl) dX12_settle_18 ⟨Nat.le_of_ble_eq_true rfl, Nat.le_of_ble_eq_true rfl⟩ (fun v161 f162 H locs q163 hW => ?_)
        obtain ⟨⟨x166, rfl, p167⟩, g165⟩ := q163
        have z168 : GS f0 f162 h0 := gs_keep v142 hw164 g165 rh0 rfl rfl
        have hF := FM.tr hF g165 rfl
        refine lv_iload_n hx hb dX12_settle_21 rfl (lv_at hl 1 rfl) ?_
        refine q_icmp_lt (tgt := 101) hx hb dX12_settle_22 (by decide) rfl rfl (fun c169 => ?_) (fun c169 => ?_)
        · exact e_V E hW rfl ⟨rfl, hF, (by simp only [((fm_I g165 rh0 rfl).trans m137), mF21, ((fm_I g165 rh0 rfl).trans m154), mF27, and_true, true_and, true_or, or_true, false_or, or_false] <;> omega), ⟨z168, (by unfold vP; rw [((fm_R g165 rh0 rfl).trans m151), mQ, fm_A hF rQ (by decide) rfl]), by rw [((fm_I g165 rh0 rfl).trans m154), mF27]; omega, (Or.inr (by rw [((fm_I g165 rh0 rfl).trans m154)]; unfold vP; rw [mQ, at_i (show aI (f0 pQ) (x156 : Int32).toNatClampNeg = y158 from by rw [← fm_A hF rQ (by decide) rfl]; exact ((congrArg (fun z => aI z (x156 : Int32).toNatClampNeg) (fm_A g165 rQ (by decide) rfl)).trans m159)) (by omega) (by omega)]; omega)), by rw [((fm_I g165 rh0 rfl).trans m154), mF27]; unfold vP; rw [mQ]; exact v143⟩⟩ dX12_settle_101
        · refine lv_aload_n hx hb dX12_settle_25 rfl (lv_at hl 0 rfl) ?_
          refine lv_dup hx hb dX12_settle_26 rfl ?_
          refine fg_RX12_232 E hW rh0 dX12_settle_27 (fun y170 m171 b172 => ?_)
          obtain rfl : y139 = y170 := (((fm_I g165 rh0 rfl).trans m154)).symm.trans m171
          refine lv_iconst (v := 1) hx hb dX12_settle_30 (by decide) ?_
          refine q_isub (Y := 1) hx hb dX12_settle_31 rfl rfl (by omega) (fun x173 h174 => ?_)
          have m175 : aI (f162 pQ) (x173 : Int32).toNatClampNeg = y158 := by rw [show (x173 : Int32) = x156 from Int32.toInt_inj.mp (by omega)]; exact ((congrArg (fun z => aI z (x156 : Int32).toNatClampNeg) (fm_A g165 rQ (by decide) rfl)).trans m159)
          have m176 : aI (f0 pQ) (x173 : Int32).toNatClampNeg = y158 := by rw [← fm_A hF rQ (by decide) rfl]; exact m175
          have hw181 := hW.2.2.2
          refine fp_RX12_232 E hW rh0 (by omega) dX12_settle_32 (fun f177 H locs e178 n179 g180 hW => ?_)
          have m182 : aI (f177 pQ) (x156 : Int32).toNatClampNeg = y158 := ((congrArg (fun z => aI z (x156 : Int32).toNatClampNeg) (fm_A g180 rQ (by decide) rfl)).trans ((congrArg (fun z => aI z (x156 : Int32).toNatClampNeg) (fm_A g165 rQ (by decide) rfl)).trans m159))
          have hF := FM.tr hF g180 rfl
          refine lv_aload_n hx hb dX12_settle_35 rfl (lv_at hl 0 rfl) ?_
          refine fg_RX12_48 E hW rh0 dX12_settle_36 (fun a183 m184 r185 => ?_)
          obtain rfl : pQ = a183 := (((fm_R g180 rh0 rfl).trans ((fm_R g165 rh0 rfl).trans m151))).symm.trans m184
          refine lv_aload_n hx hb dX12_settle_39 rfl (lv_at hl 0 rfl) ?_
          refine fg_RX12_232 E hW rh0 dX12_settle_40 (fun y186 m187 b188 => ?_)
          obtain rfl : x173 = y186 := (e178).symm.trans m187
          refine gl_845 E hW rQ ⟨by omega, by omega⟩ dX12_settle_43 (fun y189 m190 => ?_)
          have m192 : aI (f177 pQ) (x173 : Int32).toNatClampNeg = y158 := by rw [show (x173 : Int32) = x156 from Int32.toInt_inj.mp (by omega)]; exact m182
          obtain rfl : y158 = y189 := (m192).symm.trans m190
          refine lv_bipush (v := 28) hx hb dX12_settle_44 (by decide) ?_
          refine q_icmp_eq (Y := 28) (tgt := 63) hx hb dX12_settle_46 (by decide) rfl rfl (fun c193 => ?_) (fun c193 => ?_)
          · refine lv_aload_n hx hb dX12_settle_63 rfl (lv_at hl 0 rfl) ?_
            refine fg_RX12_45 E hW rh0 dX12_settle_64 (fun a194 m195 r196 => ?_)
            obtain rfl : pB = a194 := (((fm_R g180 rh0 rfl).trans ((fm_R g165 rh0 rfl).trans m133))).symm.trans m195
            refine lv_aload_n hx hb dX12_settle_67 rfl (lv_at hl 0 rfl) ?_
            refine fg_RX12_51 E hW rh0 dX12_settle_68 (fun a197 m198 r199 => ?_)
            obtain rfl : pT = a197 := (((fm_R g180 rh0 rfl).trans ((fm_R g165 rh0 rfl).trans m135))).symm.trans m198
            refine lv_aload_n hx hb dX12_settle_71 rfl (lv_at hl 0 rfl) ?_
            refine fg_RX12_232 E hW rh0 dX12_settle_72 (fun y200 m201 b202 => ?_)
            obtain rfl : x173 = y200 := (m187).symm.trans m201
            refine gl_846 E hW rT ⟨by omega, by omega⟩ dX12_settle_75 (fun y203 m204 b205 => ?_)
            refine lv_aload_n hx hb dX12_settle_76 rfl (lv_at hl 0 rfl) ?_
            refine fg_RX12_229 E hW rh0 dX12_settle_77 (fun y206 m207 b208 => ?_)
            obtain rfl : y136 = y206 := (((fm_I g180 rh0 rfl).trans ((fm_I g165 rh0 rfl).trans m137))).symm.trans m207
            have hw213 := hW.2.2.2
            refine gs_843 E hW rB ⟨by omega, by omega⟩ dX12_settle_80 (fun f209 H locs e210 n211 g212 hW => ?_)
            have hF := FM.tr hF g212 rfl
            refine lv_goto (tgt := 0) hx hb dX12_settle_81 (by decide) ?_
            exact ih0 f209 y136 x173 ((fm_R g212 rh0 rfl).trans ((fm_R g180 rh0 rfl).trans ((fm_R g165 rh0 rfl).trans m131))) ((fm_J g212 rh0 rfl).trans ((fm_J g180 rh0 rfl).trans ((fm_J g165 rh0 rfl).trans m132))) ((fm_R g212 rh0 rfl).trans m195) ((fm_R g212 rh0 rfl).trans m184) ((fm_R g212 rh0 rfl).trans m198) ((fm_I g212 rh0 rfl).trans m207) (by first | omega | decide | trivial) ((fm_I g212 rh0 rfl).trans m201) (by first | omega | decide | trivial) (gs_popJ (x := y158) (w := y203) z168 hw181 hw213 rh0 g180 e178 (by rw [m171]; omega) (by rw [m171]; omega) g212 (by unfold vP; rw [((fm_R g165 rh0 rfl).trans m151)]; exact m175.symm) (by omega) (by unfold vT; rw [((fm_R g165 rh0 rfl).trans m135), ← fm_A g180 rT (by decide) rfl]; exact m204.symm) (by unfold vA; rw [((fm_R g212 rh0 rfl).trans m195), m195, ((fm_I g165 rh0 rfl).trans m137)]; exact e210)) (pop_all v143 m176 (by omega) (by omega) (by omega)) (by omega) (by omega) _ _ _ hW hF (lv_sub hl [0, 1] rfl)
          · refine lv_aload_n hx hb dX12_settle_49 rfl (lv_at hl 0 rfl) ?_
            refine fg_RX12_48 E hW rh0 dX12_settle_50 (fun a214 m215 r216 => ?_)
            obtain rfl : pQ = a214 := (m184).symm.trans m215
            refine lv_aload_n hx hb dX12_settle_53 rfl (lv_at hl 0 rfl) ?_
            refine fg_RX12_232 E hW rh0 dX12_settle_54 (fun y217 m218 b219 => ?_)
            obtain rfl : x173 = y217 := (m187).symm.trans m218
            refine gl_845 E hW rQ ⟨by omega, by omega⟩ dX12_settle_57 (fun y220 m221 => ?_)
            obtain rfl : y158 = y220 := (m190).symm.trans m221
            refine lv_bipush (v := 29) hx hb dX12_settle_58 (by decide) ?_
            refine q_icmp_ne (Y := 29) (tgt := 84) hx hb dX12_settle_60 (by decide) rfl rfl (fun c223 => ?_) (fun c223 => ?_)
            · refine lv_aload_n hx hb dX12_settle_84 rfl (lv_at hl 0 rfl) ?_
              refine lv_aload_n hx hb dX12_settle_85 rfl (lv_at hl 0 rfl) ?_
              refine fg_RX12_48 E hW rh0 dX12_settle_86 (fun a224 m225 r226 => ?_)
              obtain rfl : pQ = a224 := (m215).symm.trans m225
              refine lv_aload_n hx hb dX12_settle_89 rfl (lv_at hl 0 rfl) ?_
              refine fg_RX12_232 E hW rh0 dX12_settle_90 (fun y227 m228 b229 => ?_)
              obtain rfl : x173 = y227 := (m218).symm.trans m228
              refine gl_845 E hW rQ ⟨by omega, by omega⟩ dX12_settle_93 (fun y230 m231 => ?_)
              obtain rfl : y158 = y230 := (m221).symm.trans m231
              refine lv_iconst (v := 0) hx hb dX12_settle_94 (by decide) ?_
              have hw237 := hW.2.2.2
              refine t_callV (As := [.int y158, .int 0]) (rest := []) E hW (c_X12_emit l G cI cJ cZ cD cR cT kp L f177 hW.2.2.2 _ h0 y158 0 rh0 (by have hkq233 : (0 : Int32).toInt = 0 := rfl; simp only [((fm_I g180 rh0 rfl).trans ((fm_I g165 rh0 rfl).trans m137)), and_true, true_and, true_or, or_true, false_or, or_false] <;> omega)) rh0 (by decide) rfl wk_X12_emit tw_1852 rfl ⟨Nat.le_of_ble_eq_true rfl, Nat.le_of_ble_eq_true rfl⟩ ⟨rfl, rfl⟩ hl.1 rfl (Nat.le_of_ble_eq_true rfl) dX12_settle_95 ⟨Nat.le_of_ble_eq_true rfl, Nat.le_of_ble_eq_true rfl⟩ (fun v234 f235 H locs q236 hW => ?_)
              obtain ⟨rfl, g238, h239, h240⟩ := q236
              have hF := FM.tr hF g238 rfl
              have hk241 : (0 : Int32).toInt = 0 := rfl
              obtain ⟨y242, m243⟩ : ∃ x : Int32, oI (f235 h0) 21 = x := ⟨_, rfl⟩
              have b244 : (0 : Int) ≤ y242.toInt ∧ y242.toInt ≤ 400 := by rw [← m243]; exact th_iv hW rh0 (by decide) (by decide) rfl
              simp only [m243, ((fm_I g180 rh0 rfl).trans ((fm_I g165 rh0 rfl).trans m137))] at h239
              refine lv_goto (tgt := 0) hx hb dX12_settle_98 (by decide) ?_
              exact ih0 f235 y242 x173 ((fm_R g238 rh0 rfl).trans ((fm_R g180 rh0 rfl).trans ((fm_R g165 rh0 rfl).trans m131))) ((fm_J g238 rh0 rfl).trans ((fm_J g180 rh0 rfl).trans ((fm_J g165 rh0 rfl).trans m132))) ((fm_R g238 rh0 rfl).trans ((fm_R g180 rh0 rfl).trans ((fm_R g165 rh0 rfl).trans m133))) ((fm_R g238 rh0 rfl).trans m225) ((fm_R g238 rh0 rfl).trans ((fm_R g180 rh0 rfl).trans ((fm_R g165 rh0 rfl).trans m135))) m243 (by first | omega | decide | trivial) ((fm_I g238 rh0 rfl).trans m228) (by first | omega | decide | trivial) (gs_pop (x := y158) z168 hw181 hw237 rh0 g180 e178 (by rw [m171]; omega) (by rw [m171]; omega) g238 rfl (by unfold vP; rw [((fm_R g165 rh0 rfl).trans m151)]; exact m175.symm) (by omega) (bn_lt (by omega)) h240) (pop_all v143 m176 (by omega) (by omega) (by omega)) (by omega) (by omega) _ _ _ hW hF (lv_sub hl [0, 1] rfl)
            · refine lv_aload_n hx hb dX12_settle_63 rfl (lv_at hl 0 rfl) ?_
              refine fg_RX12_45 E hW rh0 dX12_settle_64 (fun a245 m246 r247 => ?_)
              obtain rfl : pB = a245 := (((fm_R g180 rh0 rfl).trans ((fm_R g165 rh0 rfl).trans m133))).symm.trans m246
              refine lv_aload_n hx hb dX12_settle_67 rfl (lv_at hl 0 rfl) ?_
              refine fg_RX12_51 E hW rh0 dX12_settle_68 (fun a248 m249 r250 => ?_)
              obtain rfl : pT = a248 := (((fm_R g180 rh0 rfl).trans ((fm_R g165 rh0 rfl).trans m135))).symm.trans m249
              refine lv_aload_n hx hb dX12_settle_71 rfl (lv_at hl 0 rfl) ?_
              refine fg_RX12_232 E hW rh0 dX12_settle_72 (fun y251 m252 b253 => ?_)
              obtain rfl : x173 = y251 := (m218).symm.trans m252
              refine gl_846 E hW rT ⟨by omega, by omega⟩ dX12_settle_75 (fun y254 m255 b256 => ?_)
              refine lv_aload_n hx hb dX12_settle_76 rfl (lv_at hl 0 rfl) ?_
              refine fg_RX12_229 E hW rh0 dX12_settle_77 (fun y257 m258 b259 => ?_)
              obtain rfl : y136 = y257 := (((fm_I g180 rh0 rfl).trans ((fm_I g165 rh0 rfl).trans m137))).symm.trans m258
              have hw264 := hW.2.2.2
              refine gs_843 E hW rB ⟨by omega, by omega⟩ dX12_settle_80 (fun f260 H locs e261 n262 g263 hW => ?_)
              have hF := FM.tr hF g263 rfl
              refine lv_goto (tgt := 0) hx hb dX12_settle_81 (by decide) ?_
              exact ih0 f260 y136 x173 ((fm_R g263 rh0 rfl).trans ((fm_R g180 rh0 rfl).trans ((fm_R g165 rh0 rfl).trans m131))) ((fm_J g263 rh0 rfl).trans ((fm_J g180 rh0 rfl).trans ((fm_J g165 rh0 rfl).trans m132))) ((fm_R g263 rh0 rfl).trans m246) ((fm_R g263 rh0 rfl).trans m215) ((fm_R g263 rh0 rfl).trans m249) ((fm_I g263 rh0 rfl).trans m258) (by first | omega | decide | trivial) ((fm_I g263 rh0 rfl).trans m252) (by first | omega | decide | trivial) (gs_popJ (x := y158) (w := y254) z168 hw181 hw264 rh0 g180 e178 (by rw [m171]; omega) (by rw [m171]; omega) g263 (by unfold vP; rw [((fm_R g165 rh0 rfl).trans m151)]; exact m175.symm) (by omega) (by unfold vT; rw [((fm_R g165 rh0 rfl).trans m135), ← fm_A g180 rT (by decide) rfl]; exact m255.symm) (by unfold vA; rw [((fm_R g263 rh0 rfl).trans m246), m246, ((fm_I g165 rh0 rfl).trans m137)]; exact e261)) (pop_all v143 m176 (by omega) (by omega) (by omega)) (by omega) (by omega) _ _ _ hW hF (lv_sub hl [0, 1] rfl)
  exact L145 401 f0 pF21 pF27 mR mW mB mQ mT mF21 (by first | omega | decide | trivial) mF27 (by first | omega | decide | trivial) gs_0 (fun k h1 h2 => by omega) (by omega) (by omega) _ _ _ hW hF (lv_sub hl [0, 1] rfl)
def ms_X12_inner : List (Nat × Nat) := []
def po_X12_inner (kp : Nat → Nat) (L : List Nat) (f0 : Nat → va_E) (h0 : Nat) : Option Value → (Nat → va_E) → Prop := fun v f => (∃ r : Int32, v = some (.int r) ∧ ((-1 : Int) ≤ r.toInt)) ∧ FM kp L ms_X12_inner f0 f ∧ (∀ r : Int32, v = some (.int r) → innI (vP f0 h0) r.toInt (oI (f0 h0) 27).toInt)
set_option maxHeartbeats 4000000 in
set_option maxRecDepth 100000 in
theorem c_X12_inner (l : Launch) (G : va_G) (cI cJ cZ cD cR cT : ClassId) (kp : Nat → Nat) (L : List Nat) (f0 : Nat → va_E) (hTH : TH cI cJ cZ cD cR cT kp L f0) (sz : Nat) (h0 : Nat) (rh0 : RK kp L h0 12) : Met l yX12_inner (Cond.code yX12_inner cX12_inner 3 (some .int) :: wTab) ({ frames := 1, cells := 0, slots := 0, locals := 40 }) (va_Pc [.ref h0] (PreW G (tys6 cI cJ cZ cD cR cT) (va_pl L f0) sz)) (QT (po_X12_inner kp L f0 h0) G cI cJ cZ cD cR cT (va_A (va_pl L f0) sz) kp L) 0 0 (va_A (va_pl L f0) sz) := by
  refine metT (by decide) (Nat.le_of_ble_eq_true rfl) hTH ?_
  intro p e s m below meth c A ls E hW hl
  obtain ⟨hx, hb, -, hml, hown, hts, -, -, -⟩ := id E
  have hF : FM kp L ms_X12_inner f0 f0 := FM.rf
  have hl : lv_has ls 3 [(0, .ref h0)] := hl
  obtain ⟨pF27, mF27⟩ : ∃ x : Int32, oI (f0 h0) 27 = x := ⟨_, rfl⟩
  have bF27 : (0 : Int) ≤ pF27.toInt ∧ pF27.toInt ≤ 400 := by rw [← mF27]; exact th_iv hW rh0 (by decide) (by decide) rfl
  obtain ⟨pW, mW⟩ : ∃ x : Int64, oJ (f0 h0) 16 = x := ⟨_, rfl⟩
  obtain ⟨pR, mR⟩ : ∃ x : Nat, oR (f0 h0) 2 = x := ⟨_, rfl⟩
  have rR : RK kp L pR 822 := by rw [← mR]; exact th_ref hTH rh0 (by decide) (by decide) rfl
  obtain ⟨pQ, mQ⟩ : ∃ x : Nat, oR (f0 h0) 25 = x := ⟨_, rfl⟩
  have rQ : RK kp L pQ 845 := by rw [← mQ]; exact th_ref hTH rh0 (by decide) (by decide) rfl
  refine lv_iconst (v := (-1)) hx hb dX12_inner_0 (by decide) ?_
  refine lv_istore_n (lv' := [(1, .int (-1)), (0, .ref h0)]) hx hb dX12_inner_1 rfl hl (by decide) rfl (fun ls hl => ?_)
  refine lv_iconst (v := 0) hx hb dX12_inner_2 (by decide) ?_
  refine lv_istore_n (lv' := [(2, .int 0), (1, .int (-1)), (0, .ref h0)]) hx hb dX12_inner_3 rfl hl (by decide) rfl (fun ls hl => ?_)
  have L1303 : ∀ (n : Nat), ∀ (y1297 : Int32) (y1299 : Int32) (b1298 : (0 : Int) ≤ y1297.toInt ∧ y1297.toInt ≤ 400) (b1300 : (-1 : Int) ≤ y1299.toInt) (v1301 : innI (aI (f0 pQ)) y1299.toInt y1297.toInt) (v1302 : y1297.toInt ≤ pF27.toInt) (hm : (401 : Int) - y1297.toInt ≤ n) (H : Heap) (locs : List Loc) (ls : Array Slot), WS G cI cJ cZ cD cR cT A kp L f0 s H locs → FM kp L ms_X12_inner f0 f0 → lv_has ls 3 [(2, .int y1297), (1, .int y1299), (0, .ref h0)] → W p l e ({ frames := 1, cells := 0, slots := 0, locals := 40 }) s m ([.ref h0] : List Value).toArray below meth c H locs 0 0 (MQ below (QT (po_X12_inner kp L f0 h0) G cI cJ cZ cD cR cT A kp L) ([.ref h0] : List Value).toArray s 0 0 A) (F0 m 4 ls []) := by
    intro n
    induction n with
    | zero =>
      intro y1297 y1299 b1298 b1300 v1301 v1302 hm H locs ls hW hF hl
      have hz := i32_b y1297
      exfalso; omega
    | succ n ih =>
      intro y1297 y1299 b1298 b1300 v1301 v1302 hm H locs ls hW hF hl
      have ih4 := ih
      refine lv_iload_n hx hb dX12_inner_4 rfl (lv_at hl 0 rfl) ?_
      refine lv_aload_n hx hb dX12_inner_5 rfl (lv_at hl 2 rfl) ?_
      refine fg_RX12_232 E hW rh0 dX12_inner_6 (fun y1304 m1305 b1306 => ?_)
      obtain rfl : pF27 = y1304 := (mF27).symm.trans m1305
      refine q_icmp_ge (tgt := 40) hx hb dX12_inner_9 (by decide) rfl rfl (fun c1307 => ?_) (fun c1307 => ?_)
      · refine lv_iload_n hx hb dX12_inner_40 rfl (lv_at hl 1 rfl) ?_
        exact e_I E hW rfl ⟨⟨_, rfl, (by first | omega | trivial)⟩, hF, (by intro r hr; cases hr; unfold vP; rw [mQ, mF27, show pF27.toInt = y1297.toInt by omega]; exact v1301)⟩ dX12_inner_41
      · refine lv_aload_n hx hb dX12_inner_12 rfl (lv_at hl 2 rfl) ?_
        refine fg_RX12_48 E hW rh0 dX12_inner_13 (fun a1308 m1309 r1310 => ?_)
        obtain rfl : pQ = a1308 := (mQ).symm.trans m1309
        refine lv_iload_n hx hb dX12_inner_16 rfl (lv_at hl 0 rfl) ?_
        refine gl_845 E hW rQ ⟨by omega, by omega⟩ dX12_inner_17 (fun y1311 m1312 => ?_)
        refine lv_bipush (v := 30) hx hb dX12_inner_18 (by decide) ?_
        refine q_icmp_lt (Y := 30) (tgt := 32) hx hb dX12_inner_20 (by decide) rfl rfl (fun c1314 => ?_) (fun c1314 => ?_)
        · refine lv_iload_n hx hb dX12_inner_32 rfl (lv_at hl 1 rfl) ?_
          refine lv_istore_n (lv' := [(1, .int y1299), (2, .int y1297), (0, .ref h0)]) hx hb dX12_inner_33 rfl hl (by decide) rfl (fun ls hl => ?_)
          refine q_iinc hx hb dX12_inner_34 hl (k := 1) rfl rfl rfl (by omega) (by decide) (fun i1315 ls h1316 hl => ?_)
          have hl : lv_has ls 3 [(2, .int i1315), (1, .int y1299), (0, .ref h0)] := hl
          refine lv_goto (tgt := 4) hx hb dX12_inner_37 (by decide) ?_
          exact ih4 i1315 y1299 (by omega) (by omega) (inn_no v1301 (by omega) m1312 (by omega) (by omega)) (by omega) (by omega) _ _ _ hW hF (lv_sub hl [0, 1, 2] rfl)
        · refine lv_aload_n hx hb dX12_inner_23 rfl (lv_at hl 2 rfl) ?_
          refine fg_RX12_48 E hW rh0 dX12_inner_24 (fun a1317 m1318 r1319 => ?_)
          obtain rfl : pQ = a1317 := (m1309).symm.trans m1318
          refine lv_iload_n hx hb dX12_inner_27 rfl (lv_at hl 0 rfl) ?_
          refine gl_845 E hW rQ ⟨by omega, by omega⟩ dX12_inner_28 (fun y1320 m1321 => ?_)
          obtain rfl : y1311 = y1320 := (m1312).symm.trans m1321
          refine lv_goto (tgt := 33) hx hb dX12_inner_29 (by decide) ?_
          refine lv_istore_n (lv' := [(1, .int y1311), (2, .int y1297), (0, .ref h0)]) hx hb dX12_inner_33 rfl hl (by decide) rfl (fun ls hl => ?_)
          refine q_iinc hx hb dX12_inner_34 hl (k := 1) rfl rfl rfl (by omega) (by decide) (fun i1323 ls h1324 hl => ?_)
          have hl : lv_has ls 3 [(2, .int i1323), (1, .int y1311), (0, .ref h0)] := hl
          refine lv_goto (tgt := 4) hx hb dX12_inner_37 (by decide) ?_
          exact ih4 i1323 y1311 (by omega) (by omega) (inn_br v1301 (by omega) m1321 (by omega) (by omega)) (by omega) (by omega) _ _ _ hW hF (lv_sub hl [0, 1, 2] rfl)
  have hk1325 : (0 : Int32).toInt = 0 := rfl
  have hk1326 : ((-1) : Int32).toInt = -1 := rfl
  exact L1303 401 0 (-1) (by decide) (by decide) (by have h1 : ((-1) : Int32).toInt = -1 := rfl; have h2 : (0 : Int32).toInt = 0 := rfl; rw [h1, h2]; exact inn_0) (by have hk : (0 : Int32).toInt = 0 := rfl; omega) (by omega) _ _ _ hW hF (lv_sub hl [0, 1, 2] rfl)
def ms_X12_isCompared : List (Nat × Nat) := []
def po_X12_isCompared (kp : Nat → Nat) (L : List Nat) (f0 : Nat → va_E) (h0 : Nat) : Option Value → (Nat → va_E) → Prop := fun v f => (∃ r : Int32, v = some (.int r) ∧ ((0 : Int) ≤ r.toInt ∧ r.toInt ≤ 1)) ∧ FM kp L ms_X12_isCompared f0 f
set_option maxHeartbeats 4000000 in
set_option maxRecDepth 100000 in
theorem c_X12_isCompared (l : Launch) (G : va_G) (cI cJ cZ cD cR cT : ClassId) (kp : Nat → Nat) (L : List Nat) (f0 : Nat → va_E) (hTH : TH cI cJ cZ cD cR cT kp L f0) (sz : Nat) (h0 : Nat) (rh0 : RK kp L h0 12) : Met l yX12_isCompared (Cond.code yX12_isCompared cX12_isCompared 2 (some .boolean) :: wTab) ({ frames := 2, cells := 0, slots := 0, locals := 65 }) (va_Pc [.ref h0] (PreW G (tys6 cI cJ cZ cD cR cT) (va_pl L f0) sz)) (QT (po_X12_isCompared kp L f0 h0) G cI cJ cZ cD cR cT (va_A (va_pl L f0) sz) kp L) 0 0 (va_A (va_pl L f0) sz) := by
  refine metT (by decide) (Nat.le_of_ble_eq_true rfl) hTH ?_
  intro p e s m below meth c A ls E hW hl
  obtain ⟨hx, hb, -, hml, hown, hts, -, -, -⟩ := id E
  have hF : FM kp L ms_X12_isCompared f0 f0 := FM.rf
  have hl : lv_has ls 2 [(0, .ref h0)] := hl
  obtain ⟨pR, mR⟩ : ∃ x : Nat, oR (f0 h0) 2 = x := ⟨_, rfl⟩
  have rR : RK kp L pR 822 := by rw [← mR]; exact th_ref hTH rh0 (by decide) (by decide) rfl
  refine lv_aload_n hx hb dX12_isCompared_0 rfl (lv_at hl 0 rfl) ?_
  refine fg_RX12_232 E hW rh0 dX12_isCompared_1 (fun y1 m2 b3 => ?_)
  refine lv_iconst (v := 1) hx hb dX12_isCompared_4 (by decide) ?_
  refine q_isub (Y := 1) hx hb dX12_isCompared_5 rfl rfl (by omega) (fun x4 h5 => ?_)
  refine lv_istore_n (lv' := [(1, .int x4), (0, .ref h0)]) hx hb dX12_isCompared_6 rfl hl (by decide) rfl (fun ls hl => ?_)
  have L60 : ∀ (n : Nat), ∀ (f55 : Nat → va_E) (y58 : Int32) (m56 : oR (f55 h0) 2 = pR) (m57 : oI (f55 h0) 27 = y1) (b59 : (-1 : Int) ≤ y58.toInt ∧ y58.toInt ≤ 399) (hm : y58.toInt - (-2 : Int) ≤ n) (H : Heap) (locs : List Loc) (ls : Array Slot), WS G cI cJ cZ cD cR cT A kp L f55 s H locs → FM kp L ms_X12_isCompared f0 f55 → lv_has ls 2 [(1, .int y58), (0, .ref h0)] → W p l e ({ frames := 2, cells := 0, slots := 0, locals := 65 }) s m ([.ref h0] : List Value).toArray below meth c H locs 0 0 (MQ below (QT (po_X12_isCompared kp L f0 h0) G cI cJ cZ cD cR cT A kp L) ([.ref h0] : List Value).toArray s 0 0 A) (F0 m 7 ls []) := by
    intro n
    induction n with
    | zero =>
      intro f55 y58 m56 m57 b59 hm H locs ls hW hF hl
      have hz := i32_b y58
      exfalso; omega
    | succ n ih =>
      intro f55 y58 m56 m57 b59 hm H locs ls hW hF hl
      have ih7 := ih
      refine lv_iload_n hx hb dX12_isCompared_7 rfl (lv_at hl 0 rfl) ?_
      have J84 : ∀ (f81 : Nat → va_E) (m82 : oR (f81 h0) 2 = pR) (m83 : oI (f81 h0) 27 = y1) (H : Heap) (locs : List Loc) (ls : Array Slot), WS G cI cJ cZ cD cR cT A kp L f81 s H locs → FM kp L ms_X12_isCompared f0 f81 → lv_has ls 2 [(1, .int y58), (0, .ref h0)] → W p l e ({ frames := 2, cells := 0, slots := 0, locals := 65 }) s m ([.ref h0] : List Value).toArray below meth c H locs 0 0 (MQ below (QT (po_X12_isCompared kp L f0 h0) G cI cJ cZ cD cR cT A kp L) ([.ref h0] : List Value).toArray s 0 0 A) (F0 m 36 ls []) := by
        intro f81 m82 m83 H locs ls hW hF hl
        refine lv_iload_n hx hb dX12_isCompared_36 rfl (lv_at hl 0 rfl) ?_
        have J108 : ∀ (f103 : Nat → va_E) (y106 : Int32) (m104 : oR (f103 h0) 2 = pR) (m105 : oI (f103 h0) 27 = y1) (b107 : (0 : Int) ≤ y106.toInt ∧ y106.toInt ≤ 1) (H : Heap) (locs : List Loc) (ls : Array Slot), WS G cI cJ cZ cD cR cT A kp L f103 s H locs → FM kp L ms_X12_isCompared f0 f103 → lv_has ls 2 [(1, .int y58), (0, .ref h0)] → W p l e ({ frames := 2, cells := 0, slots := 0, locals := 65 }) s m ([.ref h0] : List Value).toArray below meth c H locs 0 0 (MQ below (QT (po_X12_isCompared kp L f0 h0) G cI cJ cZ cD cR cT A kp L) ([.ref h0] : List Value).toArray s 0 0 A) (F0 m 64 ls [.int y106]) := by
          intro f103 y106 m104 m105 b107 H locs ls hW hF hl
          exact e_Z E hW rfl (by omega) ⟨⟨_, rfl, (by first | omega | trivial)⟩, hF⟩ dX12_isCompared_64
        refine q_if_lt (tgt := 63) hx hb dX12_isCompared_37 (by decide) rfl (fun c109 => ?_) (fun c109 => ?_)
        · refine lv_iconst (v := 0) hx hb dX12_isCompared_63 (by decide) ?_
          exact J108 f81 0 m82 m83 (by decide) _ _ _ hW hF (lv_sub hl [0, 1] rfl)
        · refine lv_aload_n hx hb dX12_isCompared_40 rfl (lv_at hl 1 rfl) ?_
          refine fg_RX12_48 E hW rh0 dX12_isCompared_41 (fun a110 m111 r112 => ?_)
          refine lv_iload_n hx hb dX12_isCompared_44 rfl (lv_at hl 0 rfl) ?_
          refine gl_845 E hW r112 ⟨by omega, by omega⟩ dX12_isCompared_45 (fun y113 m114 => ?_)
          refine q_i2l hx hb dX12_isCompared_46 rfl (fun x116 h117 => ?_)
          have hb118 : -2147483648 ≤ x116.toInt ∧ x116.toInt ≤ 2147483647 := by have := i32_b y113; omega
          refine lv_ldc2 (v := 24) hx hb hown (hts _ tw_1896) dX12_isCompared_47 ?_
          refine lv_ldc2 (v := 26) hx hb hown (hts _ tw_1897) dX12_isCompared_50 ?_
          refine t_callS (As := [.long x116, .long 24, .long 26]) (rest := []) E hW (c_X12_in l G cI cJ cZ cD cR cT kp L f81 hW.2.2.2 _ x116 24 26) wk_X12_in tw_1554 rfl ⟨Nat.le_of_ble_eq_true rfl, Nat.le_of_ble_eq_true rfl⟩ ⟨rfl, rfl⟩ hl.1 rfl (Nat.le_of_ble_eq_true rfl) dX12_isCompared_53 ⟨Nat.le_of_ble_eq_true rfl, Nat.le_of_ble_eq_true rfl⟩ (fun v119 f120 H locs q121 hW => ?_)
          obtain ⟨⟨x123, rfl, p124⟩, g122⟩ := q121
          have p124 : (x123.toInt = 1 ∧ 24 ≤ x116.toInt ∧ x116.toInt ≤ 26) ∨ (x123.toInt = 0 ∧ (x116.toInt < 24 ∨ 26 < x116.toInt)) := p124
          have hF := FM.tr hF g122 rfl
          refine q_if_eq (tgt := 63) hx hb dX12_isCompared_56 (by decide) rfl (fun c125 => ?_) (fun c125 => ?_)
          · have q126 : (x116.toInt < 24 ∨ 26 < x116.toInt) := by omega
            clear p124
            refine lv_iconst (v := 0) hx hb dX12_isCompared_63 (by decide) ?_
            exact J108 f120 0 ((fm_R g122 rh0 rfl).trans m82) ((fm_I g122 rh0 rfl).trans m83) (by decide) _ _ _ hW hF (lv_sub hl [0, 1] rfl)
          · have q127 : 24 ≤ x116.toInt ∧ x116.toInt ≤ 26 := by omega
            clear p124
            refine lv_iconst (v := 1) hx hb dX12_isCompared_59 (by decide) ?_
            refine lv_goto (tgt := 64) hx hb dX12_isCompared_60 (by decide) ?_
            exact J108 f120 1 ((fm_R g122 rh0 rfl).trans m82) ((fm_I g122 rh0 rfl).trans m83) (by decide) _ _ _ hW hF (lv_sub hl [0, 1] rfl)
      refine q_if_lt (tgt := 36) hx hb dX12_isCompared_8 (by decide) rfl (fun c128 => ?_) (fun c128 => ?_)
      · exact J84 f55 m56 m57 _ _ _ hW hF (lv_sub hl [0, 1] rfl)
      · refine lv_aload_n hx hb dX12_isCompared_11 rfl (lv_at hl 1 rfl) ?_
        refine fg_RX12_48 E hW rh0 dX12_isCompared_12 (fun a129 m130 r131 => ?_)
        refine lv_iload_n hx hb dX12_isCompared_15 rfl (lv_at hl 0 rfl) ?_
        refine gl_845 E hW r131 ⟨by omega, by omega⟩ dX12_isCompared_16 (fun y132 m133 => ?_)
        refine q_i2l hx hb dX12_isCompared_17 rfl (fun x135 h136 => ?_)
        have hb137 : -2147483648 ≤ x135.toInt ∧ x135.toInt ≤ 2147483647 := by have := i32_b y132; omega
        refine lv_ldc2 (v := 20) hx hb hown (hts _ tw_1894) dX12_isCompared_18 ?_
        refine lv_ldc2 (v := 23) hx hb hown (hts _ tw_1895) dX12_isCompared_21 ?_
        refine t_callS (As := [.long x135, .long 20, .long 23]) (rest := []) E hW (c_X12_in l G cI cJ cZ cD cR cT kp L f55 hW.2.2.2 _ x135 20 23) wk_X12_in tw_1554 rfl ⟨Nat.le_of_ble_eq_true rfl, Nat.le_of_ble_eq_true rfl⟩ ⟨rfl, rfl⟩ hl.1 rfl (Nat.le_of_ble_eq_true rfl) dX12_isCompared_24 ⟨Nat.le_of_ble_eq_true rfl, Nat.le_of_ble_eq_true rfl⟩ (fun v138 f139 H locs q140 hW => ?_)
        obtain ⟨⟨x142, rfl, p143⟩, g141⟩ := q140
        have p143 : (x142.toInt = 1 ∧ 20 ≤ x135.toInt ∧ x135.toInt ≤ 23) ∨ (x142.toInt = 0 ∧ (x135.toInt < 20 ∨ 23 < x135.toInt)) := p143
        have hF := FM.tr hF g141 rfl
        refine q_if_eq (tgt := 36) hx hb dX12_isCompared_27 (by decide) rfl (fun c144 => ?_) (fun c144 => ?_)
        · have q145 : (x135.toInt < 20 ∨ 23 < x135.toInt) := by omega
          clear p143
          exact J84 f139 ((fm_R g141 rh0 rfl).trans m56) ((fm_I g141 rh0 rfl).trans m57) _ _ _ hW hF (lv_sub hl [0, 1] rfl)
        · have q146 : 20 ≤ x135.toInt ∧ x135.toInt ≤ 23 := by omega
          clear p143
          refine q_iinc hx hb dX12_isCompared_30 hl (k := 0) rfl rfl rfl (by omega) (by decide) (fun i147 ls h148 hl => ?_)
          have hl : lv_has ls 2 [(1, .int i147), (0, .ref h0)] := hl
          refine lv_goto (tgt := 7) hx hb dX12_isCompared_33 (by decide) ?_
          exact ih7 f139 i147 ((fm_R g141 rh0 rfl).trans m56) ((fm_I g141 rh0 rfl).trans m57) (by omega) (by omega) _ _ _ hW hF (lv_sub hl [0, 1] rfl)
  exact L60 401 f0 x4 mR m2 (by omega) (by omega) _ _ _ hW hF (lv_sub hl [0, 1] rfl)
def ms_X12_partAt : List (Nat × Nat) := []
def po_X12_partAt (kp : Nat → Nat) (L : List Nat) (f0 : Nat → va_E) (h0 : Nat) : Option Value → (Nat → va_E) → Prop := fun v f => (∃ r : Int32, v = some (.int r) ∧ (r.toInt = -1 ∨ ((oI (f0 h0) 15).toInt = 1 ∧ 1 ≤ r.toInt ∧ r.toInt ≤ 11))) ∧ FM kp L ms_X12_partAt f0 f
set_option maxHeartbeats 4000000 in
set_option maxRecDepth 100000 in
theorem c_X12_partAt (l : Launch) (G : va_G) (cI cJ cZ cD cR cT : ClassId) (kp : Nat → Nat) (L : List Nat) (f0 : Nat → va_E) (hTH : TH cI cJ cZ cD cR cT kp L f0) (sz : Nat) (h0 : Nat) (rh0 : RK kp L h0 12) : Met l yX12_partAt (Cond.code yX12_partAt cX12_partAt 1 (some .int) :: wTab) ({ frames := 2, cells := 0, slots := 0, locals := 62 }) (va_Pc [.ref h0] (PreW G (tys6 cI cJ cZ cD cR cT) (va_pl L f0) sz)) (QT (po_X12_partAt kp L f0 h0) G cI cJ cZ cD cR cT (va_A (va_pl L f0) sz) kp L) 0 0 (va_A (va_pl L f0) sz) := by
  refine metT (by decide) (Nat.le_of_ble_eq_true rfl) hTH ?_
  intro p e s m below meth c A ls E hW hl
  obtain ⟨hx, hb, -, hml, hown, hts, -, -, -⟩ := id E
  have hF : FM kp L ms_X12_partAt f0 f0 := FM.rf
  have hl : lv_has ls 1 [(0, .ref h0)] := hl
  obtain ⟨pF15, mF15⟩ : ∃ x : Int32, oI (f0 h0) 15 = x := ⟨_, rfl⟩
  have bF15 : (0 : Int) ≤ pF15.toInt ∧ pF15.toInt ≤ 3 := by rw [← mF15]; exact th_iv hW rh0 (by decide) (by decide) rfl
  obtain ⟨pW, mW⟩ : ∃ x : Int64, oJ (f0 h0) 16 = x := ⟨_, rfl⟩
  obtain ⟨pR, mR⟩ : ∃ x : Nat, oR (f0 h0) 2 = x := ⟨_, rfl⟩
  have rR : RK kp L pR 822 := by rw [← mR]; exact th_ref hTH rh0 (by decide) (by decide) rfl
  refine lv_aload_n hx hb dX12_partAt_0 rfl (lv_at hl 0 rfl) ?_
  refine lv_ldc2 (v := 24627848) hx hb hown (hts _ tw_1864) dX12_partAt_1 ?_
  refine t_callV (As := [.long 24627848]) (rest := []) E hW (c_X12_isWord l G cI cJ cZ cD cR cT kp L f0 hW.2.2.2 _ h0 24627848 rh0 (by decide)) rh0 (by decide) rfl wk_X12_isWord tw_1797 rfl ⟨Nat.le_of_ble_eq_true rfl, Nat.le_of_ble_eq_true rfl⟩ ⟨rfl, rfl⟩ hl.1 rfl (Nat.le_of_ble_eq_true rfl) dX12_partAt_4 ⟨Nat.le_of_ble_eq_true rfl, Nat.le_of_ble_eq_true rfl⟩ (fun v1 f2 H locs q3 hW => ?_)
  obtain ⟨⟨x5, rfl, p6⟩, g4⟩ := q3
  simp only [mF15, mW] at p6
  have p6 : (x5.toInt = 1 ∧ pF15.toInt = 1 ∧ pW.toInt = 24627848) ∨ x5.toInt = 0 := p6
  have hF := FM.tr hF g4 rfl
  refine q_if_ne (tgt := 40) hx hb dX12_partAt_7 (by decide) rfl (fun c7 => ?_) (fun c7 => ?_)
  · have q8 : pF15.toInt = 1 ∧ pW.toInt = 24627848 := by omega
    clear p6
    refine lv_aload_n hx hb dX12_partAt_40 rfl (lv_at hl 0 rfl) ?_
    refine lv_ldc2 (v := 24627848) hx hb hown (hts _ tw_1864) dX12_partAt_41 ?_
    refine t_callV (As := [.long 24627848]) (rest := []) E hW (c_X12_isWord l G cI cJ cZ cD cR cT kp L f2 hW.2.2.2 _ h0 24627848 rh0 (by decide)) rh0 (by decide) rfl wk_X12_isWord tw_1797 rfl ⟨Nat.le_of_ble_eq_true rfl, Nat.le_of_ble_eq_true rfl⟩ ⟨rfl, rfl⟩ hl.1 rfl (Nat.le_of_ble_eq_true rfl) dX12_partAt_44 ⟨Nat.le_of_ble_eq_true rfl, Nat.le_of_ble_eq_true rfl⟩ (fun v9 f10 H locs q11 hW => ?_)
    obtain ⟨⟨x13, rfl, p14⟩, g12⟩ := q11
    simp only [((fm_I g4 rh0 rfl).trans mF15), ((fm_J g4 rh0 rfl).trans mW)] at p14
    have p14 : (x13.toInt = 1 ∧ pF15.toInt = 1 ∧ pW.toInt = 24627848) ∨ x13.toInt = 0 := p14
    have hF := FM.tr hF g12 rfl
    refine q_if_eq (tgt := 54) hx hb dX12_partAt_47 (by decide) rfl (fun c15 => ?_) (fun c15 => ?_)
    · clear p14
      refine lv_aload_n hx hb dX12_partAt_54 rfl (lv_at hl 0 rfl) ?_
      refine lv_ldc2 (v := 595412) hx hb hown (hts _ tw_1865) dX12_partAt_55 ?_
      refine t_callV (As := [.long 595412]) (rest := []) E hW (c_X12_isWord l G cI cJ cZ cD cR cT kp L f10 hW.2.2.2 _ h0 595412 rh0 (by decide)) rh0 (by decide) rfl wk_X12_isWord tw_1797 rfl ⟨Nat.le_of_ble_eq_true rfl, Nat.le_of_ble_eq_true rfl⟩ ⟨rfl, rfl⟩ hl.1 rfl (Nat.le_of_ble_eq_true rfl) dX12_partAt_58 ⟨Nat.le_of_ble_eq_true rfl, Nat.le_of_ble_eq_true rfl⟩ (fun v16 f17 H locs q18 hW => ?_)
      obtain ⟨⟨x20, rfl, p21⟩, g19⟩ := q18
      simp only [((fm_I g12 rh0 rfl).trans ((fm_I g4 rh0 rfl).trans mF15)), ((fm_J g12 rh0 rfl).trans ((fm_J g4 rh0 rfl).trans mW))] at p21
      have p21 : (x20.toInt = 1 ∧ pF15.toInt = 1 ∧ pW.toInt = 595412) ∨ x20.toInt = 0 := p21
      have hF := FM.tr hF g19 rfl
      refine q_if_eq (tgt := 68) hx hb dX12_partAt_61 (by decide) rfl (fun c22 => ?_) (fun c22 => ?_)
      · clear p21
        refine lv_aload_n hx hb dX12_partAt_68 rfl (lv_at hl 0 rfl) ?_
        refine lv_ldc2 (v := 53023794) hx hb hown (hts _ tw_1866) dX12_partAt_69 ?_
        refine t_callV (As := [.long 53023794]) (rest := []) E hW (c_X12_isWord l G cI cJ cZ cD cR cT kp L f17 hW.2.2.2 _ h0 53023794 rh0 (by decide)) rh0 (by decide) rfl wk_X12_isWord tw_1797 rfl ⟨Nat.le_of_ble_eq_true rfl, Nat.le_of_ble_eq_true rfl⟩ ⟨rfl, rfl⟩ hl.1 rfl (Nat.le_of_ble_eq_true rfl) dX12_partAt_72 ⟨Nat.le_of_ble_eq_true rfl, Nat.le_of_ble_eq_true rfl⟩ (fun v23 f24 H locs q25 hW => ?_)
        obtain ⟨⟨x27, rfl, p28⟩, g26⟩ := q25
        simp only [((fm_I g19 rh0 rfl).trans ((fm_I g12 rh0 rfl).trans ((fm_I g4 rh0 rfl).trans mF15))), ((fm_J g19 rh0 rfl).trans ((fm_J g12 rh0 rfl).trans ((fm_J g4 rh0 rfl).trans mW)))] at p28
        have p28 : (x27.toInt = 1 ∧ pF15.toInt = 1 ∧ pW.toInt = 53023794) ∨ x27.toInt = 0 := p28
        have hF := FM.tr hF g26 rfl
        refine q_if_eq (tgt := 82) hx hb dX12_partAt_75 (by decide) rfl (fun c29 => ?_) (fun c29 => ?_)
        · clear p28
          refine lv_iconst (v := 4) hx hb dX12_partAt_82 (by decide) ?_
          exact e_I E hW rfl ⟨⟨_, rfl, (by rw [mF15]; have hk : (4 : Int32).toInt = 4 := rfl; first | omega | trivial)⟩, hF⟩ dX12_partAt_83
        · have q30 : pF15.toInt = 1 ∧ pW.toInt = 53023794 := by omega
          clear p28
          refine lv_iconst (v := 3) hx hb dX12_partAt_78 (by decide) ?_
          refine lv_goto (tgt := 83) hx hb dX12_partAt_79 (by decide) ?_
          exact e_I E hW rfl ⟨⟨_, rfl, (by rw [mF15]; have hk : (3 : Int32).toInt = 3 := rfl; first | omega | trivial)⟩, hF⟩ dX12_partAt_83
      · have q31 : pF15.toInt = 1 ∧ pW.toInt = 595412 := by omega
        clear p21
        refine lv_iconst (v := 2) hx hb dX12_partAt_64 (by decide) ?_
        refine lv_goto (tgt := 83) hx hb dX12_partAt_65 (by decide) ?_
        exact e_I E hW rfl ⟨⟨_, rfl, (by rw [mF15]; have hk : (2 : Int32).toInt = 2 := rfl; first | omega | trivial)⟩, hF⟩ dX12_partAt_83
    · have q32 : pF15.toInt = 1 ∧ pW.toInt = 24627848 := by omega
      clear p14
      refine lv_iconst (v := 1) hx hb dX12_partAt_50 (by decide) ?_
      refine lv_goto (tgt := 83) hx hb dX12_partAt_51 (by decide) ?_
      exact e_I E hW rfl ⟨⟨_, rfl, (by rw [mF15]; have hk : (1 : Int32).toInt = 1 := rfl; first | omega | trivial)⟩, hF⟩ dX12_partAt_83
  · clear p6
    refine lv_aload_n hx hb dX12_partAt_10 rfl (lv_at hl 0 rfl) ?_
    refine lv_ldc2 (v := 595412) hx hb hown (hts _ tw_1865) dX12_partAt_11 ?_
    refine t_callV (As := [.long 595412]) (rest := []) E hW (c_X12_isWord l G cI cJ cZ cD cR cT kp L f2 hW.2.2.2 _ h0 595412 rh0 (by decide)) rh0 (by decide) rfl wk_X12_isWord tw_1797 rfl ⟨Nat.le_of_ble_eq_true rfl, Nat.le_of_ble_eq_true rfl⟩ ⟨rfl, rfl⟩ hl.1 rfl (Nat.le_of_ble_eq_true rfl) dX12_partAt_14 ⟨Nat.le_of_ble_eq_true rfl, Nat.le_of_ble_eq_true rfl⟩ (fun v33 f34 H locs q35 hW => ?_)
    obtain ⟨⟨x37, rfl, p38⟩, g36⟩ := q35
    simp only [((fm_I g4 rh0 rfl).trans mF15), ((fm_J g4 rh0 rfl).trans mW)] at p38
    have p38 : (x37.toInt = 1 ∧ pF15.toInt = 1 ∧ pW.toInt = 595412) ∨ x37.toInt = 0 := p38
    have hF := FM.tr hF g36 rfl
    refine q_if_ne (tgt := 40) hx hb dX12_partAt_17 (by decide) rfl (fun c39 => ?_) (fun c39 => ?_)
    · have q40 : pF15.toInt = 1 ∧ pW.toInt = 595412 := by omega
      clear p38
      refine lv_aload_n hx hb dX12_partAt_40 rfl (lv_at hl 0 rfl) ?_
      refine lv_ldc2 (v := 24627848) hx hb hown (hts _ tw_1864) dX12_partAt_41 ?_
      refine t_callV (As := [.long 24627848]) (rest := []) E hW (c_X12_isWord l G cI cJ cZ cD cR cT kp L f34 hW.2.2.2 _ h0 24627848 rh0 (by decide)) rh0 (by decide) rfl wk_X12_isWord tw_1797 rfl ⟨Nat.le_of_ble_eq_true rfl, Nat.le_of_ble_eq_true rfl⟩ ⟨rfl, rfl⟩ hl.1 rfl (Nat.le_of_ble_eq_true rfl) dX12_partAt_44 ⟨Nat.le_of_ble_eq_true rfl, Nat.le_of_ble_eq_true rfl⟩ (fun v41 f42 H locs q43 hW => ?_)
      obtain ⟨⟨x45, rfl, p46⟩, g44⟩ := q43
      simp only [((fm_I g36 rh0 rfl).trans ((fm_I g4 rh0 rfl).trans mF15)), ((fm_J g36 rh0 rfl).trans ((fm_J g4 rh0 rfl).trans mW))] at p46
      have p46 : (x45.toInt = 1 ∧ pF15.toInt = 1 ∧ pW.toInt = 24627848) ∨ x45.toInt = 0 := p46
      have hF := FM.tr hF g44 rfl
      refine q_if_eq (tgt := 54) hx hb dX12_partAt_47 (by decide) rfl (fun c47 => ?_) (fun c47 => ?_)
      · clear p46
        refine lv_aload_n hx hb dX12_partAt_54 rfl (lv_at hl 0 rfl) ?_
        refine lv_ldc2 (v := 595412) hx hb hown (hts _ tw_1865) dX12_partAt_55 ?_
        refine t_callV (As := [.long 595412]) (rest := []) E hW (c_X12_isWord l G cI cJ cZ cD cR cT kp L f42 hW.2.2.2 _ h0 595412 rh0 (by decide)) rh0 (by decide) rfl wk_X12_isWord tw_1797 rfl ⟨Nat.le_of_ble_eq_true rfl, Nat.le_of_ble_eq_true rfl⟩ ⟨rfl, rfl⟩ hl.1 rfl (Nat.le_of_ble_eq_true rfl) dX12_partAt_58 ⟨Nat.le_of_ble_eq_true rfl, Nat.le_of_ble_eq_true rfl⟩ (fun v48 f49 H locs q50 hW => ?_)
        obtain ⟨⟨x52, rfl, p53⟩, g51⟩ := q50
        simp only [((fm_I g44 rh0 rfl).trans ((fm_I g36 rh0 rfl).trans ((fm_I g4 rh0 rfl).trans mF15))), ((fm_J g44 rh0 rfl).trans ((fm_J g36 rh0 rfl).trans ((fm_J g4 rh0 rfl).trans mW)))] at p53
        have p53 : (x52.toInt = 1 ∧ pF15.toInt = 1 ∧ pW.toInt = 595412) ∨ x52.toInt = 0 := p53
        have hF := FM.tr hF g51 rfl
        refine q_if_eq (tgt := 68) hx hb dX12_partAt_61 (by decide) rfl (fun c54 => ?_) (fun c54 => ?_)
        · clear p53
          refine lv_aload_n hx hb dX12_partAt_68 rfl (lv_at hl 0 rfl) ?_
          refine lv_ldc2 (v := 53023794) hx hb hown (hts _ tw_1866) dX12_partAt_69 ?_
          refine t_callV (As := [.long 53023794]) (rest := []) E hW (c_X12_isWord l G cI cJ cZ cD cR cT kp L f49 hW.2.2.2 _ h0 53023794 rh0 (by decide)) rh0 (by decide) rfl wk_X12_isWord tw_1797 rfl ⟨Nat.le_of_ble_eq_true rfl, Nat.le_of_ble_eq_true rfl⟩ ⟨rfl, rfl⟩ hl.1 rfl (Nat.le_of_ble_eq_true rfl) dX12_partAt_72 ⟨Nat.le_of_ble_eq_true rfl, Nat.le_of_ble_eq_true rfl⟩ (fun v55 f56 H locs q57 hW => ?_)
          obtain ⟨⟨x59, rfl, p60⟩, g58⟩ := q57
          simp only [((fm_I g51 rh0 rfl).trans ((fm_I g44 rh0 rfl).trans ((fm_I g36 rh0 rfl).trans ((fm_I g4 rh0 rfl).trans mF15)))), ((fm_J g51 rh0 rfl).trans ((fm_J g44 rh0 rfl).trans ((fm_J g36 rh0 rfl).trans ((fm_J g4 rh0 rfl).trans mW))))] at p60
          have p60 : (x59.toInt = 1 ∧ pF15.toInt = 1 ∧ pW.toInt = 53023794) ∨ x59.toInt = 0 := p60
          have hF := FM.tr hF g58 rfl
          refine q_if_eq (tgt := 82) hx hb dX12_partAt_75 (by decide) rfl (fun c61 => ?_) (fun c61 => ?_)
          · clear p60
            refine lv_iconst (v := 4) hx hb dX12_partAt_82 (by decide) ?_
            exact e_I E hW rfl ⟨⟨_, rfl, (by rw [mF15]; have hk : (4 : Int32).toInt = 4 := rfl; first | omega | trivial)⟩, hF⟩ dX12_partAt_83
          · have q62 : pF15.toInt = 1 ∧ pW.toInt = 53023794 := by omega
            clear p60
            refine lv_iconst (v := 3) hx hb dX12_partAt_78 (by decide) ?_
            refine lv_goto (tgt := 83) hx hb dX12_partAt_79 (by decide) ?_
            exact e_I E hW rfl ⟨⟨_, rfl, (by rw [mF15]; have hk : (3 : Int32).toInt = 3 := rfl; first | omega | trivial)⟩, hF⟩ dX12_partAt_83
        · have q63 : pF15.toInt = 1 ∧ pW.toInt = 595412 := by omega
          clear p53
          refine lv_iconst (v := 2) hx hb dX12_partAt_64 (by decide) ?_
          refine lv_goto (tgt := 83) hx hb dX12_partAt_65 (by decide) ?_
          exact e_I E hW rfl ⟨⟨_, rfl, (by rw [mF15]; have hk : (2 : Int32).toInt = 2 := rfl; first | omega | trivial)⟩, hF⟩ dX12_partAt_83
      · have q64 : pF15.toInt = 1 ∧ pW.toInt = 24627848 := by omega
        clear p46
        refine lv_iconst (v := 1) hx hb dX12_partAt_50 (by decide) ?_
        refine lv_goto (tgt := 83) hx hb dX12_partAt_51 (by decide) ?_
        exact e_I E hW rfl ⟨⟨_, rfl, (by rw [mF15]; have hk : (1 : Int32).toInt = 1 := rfl; first | omega | trivial)⟩, hF⟩ dX12_partAt_83
    · clear p38
      refine lv_aload_n hx hb dX12_partAt_20 rfl (lv_at hl 0 rfl) ?_
      refine lv_ldc2 (v := 53023794) hx hb hown (hts _ tw_1866) dX12_partAt_21 ?_
      refine t_callV (As := [.long 53023794]) (rest := []) E hW (c_X12_isWord l G cI cJ cZ cD cR cT kp L f34 hW.2.2.2 _ h0 53023794 rh0 (by decide)) rh0 (by decide) rfl wk_X12_isWord tw_1797 rfl ⟨Nat.le_of_ble_eq_true rfl, Nat.le_of_ble_eq_true rfl⟩ ⟨rfl, rfl⟩ hl.1 rfl (Nat.le_of_ble_eq_true rfl) dX12_partAt_24 ⟨Nat.le_of_ble_eq_true rfl, Nat.le_of_ble_eq_true rfl⟩ (fun v65 f66 H locs q67 hW => ?_)
      obtain ⟨⟨x69, rfl, p70⟩, g68⟩ := q67
      simp only [((fm_I g36 rh0 rfl).trans ((fm_I g4 rh0 rfl).trans mF15)), ((fm_J g36 rh0 rfl).trans ((fm_J g4 rh0 rfl).trans mW))] at p70
      have p70 : (x69.toInt = 1 ∧ pF15.toInt = 1 ∧ pW.toInt = 53023794) ∨ x69.toInt = 0 := p70
      have hF := FM.tr hF g68 rfl
      refine q_if_ne (tgt := 40) hx hb dX12_partAt_27 (by decide) rfl (fun c71 => ?_) (fun c71 => ?_)
      · have q72 : pF15.toInt = 1 ∧ pW.toInt = 53023794 := by omega
        clear p70
        refine lv_aload_n hx hb dX12_partAt_40 rfl (lv_at hl 0 rfl) ?_
        refine lv_ldc2 (v := 24627848) hx hb hown (hts _ tw_1864) dX12_partAt_41 ?_
        refine t_callV (As := [.long 24627848]) (rest := []) E hW (c_X12_isWord l G cI cJ cZ cD cR cT kp L f66 hW.2.2.2 _ h0 24627848 rh0 (by decide)) rh0 (by decide) rfl wk_X12_isWord tw_1797 rfl ⟨Nat.le_of_ble_eq_true rfl, Nat.le_of_ble_eq_true rfl⟩ ⟨rfl, rfl⟩ hl.1 rfl (Nat.le_of_ble_eq_true rfl) dX12_partAt_44 ⟨Nat.le_of_ble_eq_true rfl, Nat.le_of_ble_eq_true rfl⟩ (fun v73 f74 H locs q75 hW => ?_)
        obtain ⟨⟨x77, rfl, p78⟩, g76⟩ := q75
        simp only [((fm_I g68 rh0 rfl).trans ((fm_I g36 rh0 rfl).trans ((fm_I g4 rh0 rfl).trans mF15))), ((fm_J g68 rh0 rfl).trans ((fm_J g36 rh0 rfl).trans ((fm_J g4 rh0 rfl).trans mW)))] at p78
        have p78 : (x77.toInt = 1 ∧ pF15.toInt = 1 ∧ pW.toInt = 24627848) ∨ x77.toInt = 0 := p78
        have hF := FM.tr hF g76 rfl
        refine q_if_eq (tgt := 54) hx hb dX12_partAt_47 (by decide) rfl (fun c79 => ?_) (fun c79 => ?_)
        · clear p78
          refine lv_aload_n hx hb dX12_partAt_54 rfl (lv_at hl 0 rfl) ?_
          refine lv_ldc2 (v := 595412) hx hb hown (hts _ tw_1865) dX12_partAt_55 ?_
          refine t_callV (As := [.long 595412]) (rest := []) E hW (c_X12_isWord l G cI cJ cZ cD cR cT kp L f74 hW.2.2.2 _ h0 595412 rh0 (by decide)) rh0 (by decide) rfl wk_X12_isWord tw_1797 rfl ⟨Nat.le_of_ble_eq_true rfl, Nat.le_of_ble_eq_true rfl⟩ ⟨rfl, rfl⟩ hl.1 rfl (Nat.le_of_ble_eq_true rfl) dX12_partAt_58 ⟨Nat.le_of_ble_eq_true rfl, Nat.le_of_ble_eq_true rfl⟩ (fun v80 f81 H locs q82 hW => ?_)
          obtain ⟨⟨x84, rfl, p85⟩, g83⟩ := q82
          simp only [((fm_I g76 rh0 rfl).trans ((fm_I g68 rh0 rfl).trans ((fm_I g36 rh0 rfl).trans ((fm_I g4 rh0 rfl).trans mF15)))), ((fm_J g76 rh0 rfl).trans ((fm_J g68 rh0 rfl).trans ((fm_J g36 rh0 rfl).trans ((fm_J g4 rh0 rfl).trans mW))))] at p85
          have p85 : (x84.toInt = 1 ∧ pF15.toInt = 1 ∧ pW.toInt = 595412) ∨ x84.toInt = 0 := p85
          have hF := FM.tr hF g83 rfl
          refine q_if_eq (tgt := 68) hx hb dX12_partAt_61 (by decide) rfl (fun c86 => ?_) (fun c86 => ?_)
          · clear p85
            refine lv_aload_n hx hb dX12_partAt_68 rfl (lv_at hl 0 rfl) ?_
            refine lv_ldc2 (v := 53023794) hx hb hown (hts _ tw_1866) dX12_partAt_69 ?_
            refine t_callV (As := [.long 53023794]) (rest := []) E hW (c_X12_isWord l G cI cJ cZ cD cR cT kp L f81 hW.2.2.2 _ h0 53023794 rh0 (by decide)) rh0 (by decide) rfl wk_X12_isWord tw_1797 rfl ⟨Nat.le_of_ble_eq_true rfl, Nat.le_of_ble_eq_true rfl⟩ ⟨rfl, rfl⟩ hl.1 rfl (Nat.le_of_ble_eq_true rfl) dX12_partAt_72 ⟨Nat.le_of_ble_eq_true rfl, Nat.le_of_ble_eq_true rfl⟩ (fun v87 f88 H locs q89 hW => ?_)
            obtain ⟨⟨x91, rfl, p92⟩, g90⟩ := q89
            simp only [((fm_I g83 rh0 rfl).trans ((fm_I g76 rh0 rfl).trans ((fm_I g68 rh0 rfl).trans ((fm_I g36 rh0 rfl).trans ((fm_I g4 rh0 rfl).trans mF15))))), ((fm_J g83 rh0 rfl).trans ((fm_J g76 rh0 rfl).trans ((fm_J g68 rh0 rfl).trans ((fm_J g36 rh0 rfl).trans ((fm_J g4 rh0 rfl).trans mW)))))] at p92
            have p92 : (x91.toInt = 1 ∧ pF15.toInt = 1 ∧ pW.toInt = 53023794) ∨ x91.toInt = 0 := p92
            have hF := FM.tr hF g90 rfl
            refine q_if_eq (tgt := 82) hx hb dX12_partAt_75 (by decide) rfl (fun c93 => ?_) (fun c93 => ?_)
            · clear p92
              refine lv_iconst (v := 4) hx hb dX12_partAt_82 (by decide) ?_
              exact e_I E hW rfl ⟨⟨_, rfl, (by rw [mF15]; have hk : (4 : Int32).toInt = 4 := rfl; first | omega | trivial)⟩, hF⟩ dX12_partAt_83
            · have q94 : pF15.toInt = 1 ∧ pW.toInt = 53023794 := by omega
              clear p92
              refine lv_iconst (v := 3) hx hb dX12_partAt_78 (by decide) ?_
              refine lv_goto (tgt := 83) hx hb dX12_partAt_79 (by decide) ?_
              exact e_I E hW rfl ⟨⟨_, rfl, (by rw [mF15]; have hk : (3 : Int32).toInt = 3 := rfl; first | omega | trivial)⟩, hF⟩ dX12_partAt_83
          · have q95 : pF15.toInt = 1 ∧ pW.toInt = 595412 := by omega
            clear p85
            refine lv_iconst (v := 2) hx hb dX12_partAt_64 (by decide) ?_
            refine lv_goto (tgt := 83) hx hb dX12_partAt_65 (by decide) ?_
            exact e_I E hW rfl ⟨⟨_, rfl, (by rw [mF15]; have hk : (2 : Int32).toInt = 2 := rfl; first | omega | trivial)⟩, hF⟩ dX12_partAt_83
        · have q96 : pF15.toInt = 1 ∧ pW.toInt = 24627848 := by omega
          clear p78
          refine lv_iconst (v := 1) hx hb dX12_partAt_50 (by decide) ?_
          refine lv_goto (tgt := 83) hx hb dX12_partAt_51 (by decide) ?_
          exact e_I E hW rfl ⟨⟨_, rfl, (by rw [mF15]; have hk : (1 : Int32).toInt = 1 := rfl; first | omega | trivial)⟩, hF⟩ dX12_partAt_83
      · clear p70
        refine lv_aload_n hx hb dX12_partAt_30 rfl (lv_at hl 0 rfl) ?_
        refine lv_ldc2 (v := 113966) hx hb hown (hts _ tw_1867) dX12_partAt_31 ?_
        refine t_callV (As := [.long 113966]) (rest := []) E hW (c_X12_isWord l G cI cJ cZ cD cR cT kp L f66 hW.2.2.2 _ h0 113966 rh0 (by decide)) rh0 (by decide) rfl wk_X12_isWord tw_1797 rfl ⟨Nat.le_of_ble_eq_true rfl, Nat.le_of_ble_eq_true rfl⟩ ⟨rfl, rfl⟩ hl.1 rfl (Nat.le_of_ble_eq_true rfl) dX12_partAt_34 ⟨Nat.le_of_ble_eq_true rfl, Nat.le_of_ble_eq_true rfl⟩ (fun v97 f98 H locs q99 hW => ?_)
        obtain ⟨⟨x101, rfl, p102⟩, g100⟩ := q99
        simp only [((fm_I g68 rh0 rfl).trans ((fm_I g36 rh0 rfl).trans ((fm_I g4 rh0 rfl).trans mF15))), ((fm_J g68 rh0 rfl).trans ((fm_J g36 rh0 rfl).trans ((fm_J g4 rh0 rfl).trans mW)))] at p102
        have p102 : (x101.toInt = 1 ∧ pF15.toInt = 1 ∧ pW.toInt = 113966) ∨ x101.toInt = 0 := p102
        have hF := FM.tr hF g100 rfl
        refine q_if_eq (tgt := 84) hx hb dX12_partAt_37 (by decide) rfl (fun c103 => ?_) (fun c103 => ?_)
        · clear p102
          refine lv_aload_n hx hb dX12_partAt_84 rfl (lv_at hl 0 rfl) ?_
          refine lv_ldc2 (v := 19959155) hx hb hown (hts _ tw_1868) dX12_partAt_85 ?_
          refine t_callV (As := [.long 19959155]) (rest := []) E hW (c_X12_isWord l G cI cJ cZ cD cR cT kp L f98 hW.2.2.2 _ h0 19959155 rh0 (by decide)) rh0 (by decide) rfl wk_X12_isWord tw_1797 rfl ⟨Nat.le_of_ble_eq_true rfl, Nat.le_of_ble_eq_true rfl⟩ ⟨rfl, rfl⟩ hl.1 rfl (Nat.le_of_ble_eq_true rfl) dX12_partAt_88 ⟨Nat.le_of_ble_eq_true rfl, Nat.le_of_ble_eq_true rfl⟩ (fun v104 f105 H locs q106 hW => ?_)
          obtain ⟨⟨x108, rfl, p109⟩, g107⟩ := q106
          simp only [((fm_I g100 rh0 rfl).trans ((fm_I g68 rh0 rfl).trans ((fm_I g36 rh0 rfl).trans ((fm_I g4 rh0 rfl).trans mF15)))), ((fm_J g100 rh0 rfl).trans ((fm_J g68 rh0 rfl).trans ((fm_J g36 rh0 rfl).trans ((fm_J g4 rh0 rfl).trans mW))))] at p109
          have p109 : (x108.toInt = 1 ∧ pF15.toInt = 1 ∧ pW.toInt = 19959155) ∨ x108.toInt = 0 := p109
          have hF := FM.tr hF g107 rfl
          refine q_if_ne (tgt := 124) hx hb dX12_partAt_91 (by decide) rfl (fun c110 => ?_) (fun c110 => ?_)
          · have q111 : pF15.toInt = 1 ∧ pW.toInt = 19959155 := by omega
            clear p109
            refine lv_aload_n hx hb dX12_partAt_124 rfl (lv_at hl 0 rfl) ?_
            refine lv_ldc2 (v := 19959155) hx hb hown (hts _ tw_1868) dX12_partAt_125 ?_
            refine t_callV (As := [.long 19959155]) (rest := []) E hW (c_X12_isWord l G cI cJ cZ cD cR cT kp L f105 hW.2.2.2 _ h0 19959155 rh0 (by decide)) rh0 (by decide) rfl wk_X12_isWord tw_1797 rfl ⟨Nat.le_of_ble_eq_true rfl, Nat.le_of_ble_eq_true rfl⟩ ⟨rfl, rfl⟩ hl.1 rfl (Nat.le_of_ble_eq_true rfl) dX12_partAt_128 ⟨Nat.le_of_ble_eq_true rfl, Nat.le_of_ble_eq_true rfl⟩ (fun v112 f113 H locs q114 hW => ?_)
            obtain ⟨⟨x116, rfl, p117⟩, g115⟩ := q114
            simp only [((fm_I g107 rh0 rfl).trans ((fm_I g100 rh0 rfl).trans ((fm_I g68 rh0 rfl).trans ((fm_I g36 rh0 rfl).trans ((fm_I g4 rh0 rfl).trans mF15))))), ((fm_J g107 rh0 rfl).trans ((fm_J g100 rh0 rfl).trans ((fm_J g68 rh0 rfl).trans ((fm_J g36 rh0 rfl).trans ((fm_J g4 rh0 rfl).trans mW)))))] at p117
            have p117 : (x116.toInt = 1 ∧ pF15.toInt = 1 ∧ pW.toInt = 19959155) ∨ x116.toInt = 0 := p117
            have hF := FM.tr hF g115 rfl
            refine q_if_eq (tgt := 138) hx hb dX12_partAt_131 (by decide) rfl (fun c118 => ?_) (fun c118 => ?_)
            · clear p117
              refine lv_aload_n hx hb dX12_partAt_138 rfl (lv_at hl 0 rfl) ?_
              refine lv_ldc2 (v := 201778) hx hb hown (hts _ tw_1869) dX12_partAt_139 ?_
              refine t_callV (As := [.long 201778]) (rest := []) E hW (c_X12_isWord l G cI cJ cZ cD cR cT kp L f113 hW.2.2.2 _ h0 201778 rh0 (by decide)) rh0 (by decide) rfl wk_X12_isWord tw_1797 rfl ⟨Nat.le_of_ble_eq_true rfl, Nat.le_of_ble_eq_true rfl⟩ ⟨rfl, rfl⟩ hl.1 rfl (Nat.le_of_ble_eq_true rfl) dX12_partAt_142 ⟨Nat.le_of_ble_eq_true rfl, Nat.le_of_ble_eq_true rfl⟩ (fun v119 f120 H locs q121 hW => ?_)
              obtain ⟨⟨x123, rfl, p124⟩, g122⟩ := q121
              simp only [((fm_I g115 rh0 rfl).trans ((fm_I g107 rh0 rfl).trans ((fm_I g100 rh0 rfl).trans ((fm_I g68 rh0 rfl).trans ((fm_I g36 rh0 rfl).trans ((fm_I g4 rh0 rfl).trans mF15)))))), ((fm_J g115 rh0 rfl).trans ((fm_J g107 rh0 rfl).trans ((fm_J g100 rh0 rfl).trans ((fm_J g68 rh0 rfl).trans ((fm_J g36 rh0 rfl).trans ((fm_J g4 rh0 rfl).trans mW))))))] at p124
              have p124 : (x123.toInt = 1 ∧ pF15.toInt = 1 ∧ pW.toInt = 201778) ∨ x123.toInt = 0 := p124
              have m125 : oR (f120 h0) 2 = pR := ((fm_R g122 rh0 rfl).trans ((fm_R g115 rh0 rfl).trans ((fm_R g107 rh0 rfl).trans ((fm_R g100 rh0 rfl).trans ((fm_R g68 rh0 rfl).trans ((fm_R g36 rh0 rfl).trans ((fm_R g4 rh0 rfl).trans mR)))))))
              have m126 : oI (f120 h0) 15 = pF15 := ((fm_I g122 rh0 rfl).trans ((fm_I g115 rh0 rfl).trans ((fm_I g107 rh0 rfl).trans ((fm_I g100 rh0 rfl).trans ((fm_I g68 rh0 rfl).trans ((fm_I g36 rh0 rfl).trans ((fm_I g4 rh0 rfl).trans mF15)))))))
              have m127 : oJ (f120 h0) 16 = pW := ((fm_J g122 rh0 rfl).trans ((fm_J g115 rh0 rfl).trans ((fm_J g107 rh0 rfl).trans ((fm_J g100 rh0 rfl).trans ((fm_J g68 rh0 rfl).trans ((fm_J g36 rh0 rfl).trans ((fm_J g4 rh0 rfl).trans mW)))))))
              have hF := FM.tr hF g122 rfl
              refine q_if_eq (tgt := 153) hx hb dX12_partAt_145 (by decide) rfl (fun c128 => ?_) (fun c128 => ?_)
              · clear p124
                refine lv_aload_n hx hb dX12_partAt_153 rfl (lv_at hl 0 rfl) ?_
                refine lv_ldc2 (v := 11566) hx hb hown (hts _ tw_1870) dX12_partAt_154 ?_
                refine t_callV (As := [.long 11566]) (rest := []) E hW (c_X12_isWord l G cI cJ cZ cD cR cT kp L f120 hW.2.2.2 _ h0 11566 rh0 (by decide)) rh0 (by decide) rfl wk_X12_isWord tw_1797 rfl ⟨Nat.le_of_ble_eq_true rfl, Nat.le_of_ble_eq_true rfl⟩ ⟨rfl, rfl⟩ hl.1 rfl (Nat.le_of_ble_eq_true rfl) dX12_partAt_157 ⟨Nat.le_of_ble_eq_true rfl, Nat.le_of_ble_eq_true rfl⟩ (fun v129 f130 H locs q131 hW => ?_)
                obtain ⟨⟨x133, rfl, p134⟩, g132⟩ := q131
                simp only [m126, m127] at p134
                have p134 : (x133.toInt = 1 ∧ pF15.toInt = 1 ∧ pW.toInt = 11566) ∨ x133.toInt = 0 := p134
                have hF := FM.tr hF g132 rfl
                refine q_if_eq (tgt := 168) hx hb dX12_partAt_160 (by decide) rfl (fun c135 => ?_) (fun c135 => ?_)
                · clear p134
                  refine lv_bipush (v := 8) hx hb dX12_partAt_168 (by decide) ?_
                  exact e_I E hW rfl ⟨⟨_, rfl, (by rw [mF15]; have hk : (8 : Int32).toInt = 8 := rfl; first | omega | trivial)⟩, hF⟩ dX12_partAt_170
                · have q136 : pF15.toInt = 1 ∧ pW.toInt = 11566 := by omega
                  clear p134
                  refine lv_bipush (v := 7) hx hb dX12_partAt_163 (by decide) ?_
                  refine lv_goto (tgt := 170) hx hb dX12_partAt_165 (by decide) ?_
                  exact e_I E hW rfl ⟨⟨_, rfl, (by rw [mF15]; have hk : (7 : Int32).toInt = 7 := rfl; first | omega | trivial)⟩, hF⟩ dX12_partAt_170
              · have q137 : pF15.toInt = 1 ∧ pW.toInt = 201778 := by omega
                clear p124
                refine lv_bipush (v := 6) hx hb dX12_partAt_148 (by decide) ?_
                refine lv_goto (tgt := 170) hx hb dX12_partAt_150 (by decide) ?_
                exact e_I E hW rfl ⟨⟨_, rfl, (by rw [mF15]; have hk : (6 : Int32).toInt = 6 := rfl; first | omega | trivial)⟩, hF⟩ dX12_partAt_170
            · have q138 : pF15.toInt = 1 ∧ pW.toInt = 19959155 := by omega
              clear p117
              refine lv_iconst (v := 5) hx hb dX12_partAt_134 (by decide) ?_
              refine lv_goto (tgt := 170) hx hb dX12_partAt_135 (by decide) ?_
              exact e_I E hW rfl ⟨⟨_, rfl, (by rw [mF15]; have hk : (5 : Int32).toInt = 5 := rfl; first | omega | trivial)⟩, hF⟩ dX12_partAt_170
          · clear p109
            refine lv_aload_n hx hb dX12_partAt_94 rfl (lv_at hl 0 rfl) ?_
            refine lv_ldc2 (v := 201778) hx hb hown (hts _ tw_1869) dX12_partAt_95 ?_
            refine t_callV (As := [.long 201778]) (rest := []) E hW (c_X12_isWord l G cI cJ cZ cD cR cT kp L f105 hW.2.2.2 _ h0 201778 rh0 (by decide)) rh0 (by decide) rfl wk_X12_isWord tw_1797 rfl ⟨Nat.le_of_ble_eq_true rfl, Nat.le_of_ble_eq_true rfl⟩ ⟨rfl, rfl⟩ hl.1 rfl (Nat.le_of_ble_eq_true rfl) dX12_partAt_98 ⟨Nat.le_of_ble_eq_true rfl, Nat.le_of_ble_eq_true rfl⟩ (fun v139 f140 H locs q141 hW => ?_)
            obtain ⟨⟨x143, rfl, p144⟩, g142⟩ := q141
            simp only [((fm_I g107 rh0 rfl).trans ((fm_I g100 rh0 rfl).trans ((fm_I g68 rh0 rfl).trans ((fm_I g36 rh0 rfl).trans ((fm_I g4 rh0 rfl).trans mF15))))), ((fm_J g107 rh0 rfl).trans ((fm_J g100 rh0 rfl).trans ((fm_J g68 rh0 rfl).trans ((fm_J g36 rh0 rfl).trans ((fm_J g4 rh0 rfl).trans mW)))))] at p144
            have p144 : (x143.toInt = 1 ∧ pF15.toInt = 1 ∧ pW.toInt = 201778) ∨ x143.toInt = 0 := p144
            have hF := FM.tr hF g142 rfl
            refine q_if_ne (tgt := 124) hx hb dX12_partAt_101 (by decide) rfl (fun c145 => ?_) (fun c145 => ?_)
            · have q146 : pF15.toInt = 1 ∧ pW.toInt = 201778 := by omega
              clear p144
              refine lv_aload_n hx hb dX12_partAt_124 rfl (lv_at hl 0 rfl) ?_
              refine lv_ldc2 (v := 19959155) hx hb hown (hts _ tw_1868) dX12_partAt_125 ?_
              refine t_callV (As := [.long 19959155]) (rest := []) E hW (c_X12_isWord l G cI cJ cZ cD cR cT kp L f140 hW.2.2.2 _ h0 19959155 rh0 (by decide)) rh0 (by decide) rfl wk_X12_isWord tw_1797 rfl ⟨Nat.le_of_ble_eq_true rfl, Nat.le_of_ble_eq_true rfl⟩ ⟨rfl, rfl⟩ hl.1 rfl (Nat.le_of_ble_eq_true rfl) dX12_partAt_128 ⟨Nat.le_of_ble_eq_true rfl, Nat.le_of_ble_eq_true rfl⟩ (fun v147 f148 H locs q149 hW => ?_)
              obtain ⟨⟨x151, rfl, p152⟩, g150⟩ := q149
              simp only [((fm_I g142 rh0 rfl).trans ((fm_I g107 rh0 rfl).trans ((fm_I g100 rh0 rfl).trans ((fm_I g68 rh0 rfl).trans ((fm_I g36 rh0 rfl).trans ((fm_I g4 rh0 rfl).trans mF15)))))), ((fm_J g142 rh0 rfl).trans ((fm_J g107 rh0 rfl).trans ((fm_J g100 rh0 rfl).trans ((fm_J g68 rh0 rfl).trans ((fm_J g36 rh0 rfl).trans ((fm_J g4 rh0 rfl).trans mW))))))] at p152
              have p152 : (x151.toInt = 1 ∧ pF15.toInt = 1 ∧ pW.toInt = 19959155) ∨ x151.toInt = 0 := p152
              have m153 : oR (f148 h0) 2 = pR := ((fm_R g150 rh0 rfl).trans ((fm_R g142 rh0 rfl).trans ((fm_R g107 rh0 rfl).trans ((fm_R g100 rh0 rfl).trans ((fm_R g68 rh0 rfl).trans ((fm_R g36 rh0 rfl).trans ((fm_R g4 rh0 rfl).trans mR)))))))
              have m154 : oI (f148 h0) 15 = pF15 := ((fm_I g150 rh0 rfl).trans ((fm_I g142 rh0 rfl).trans ((fm_I g107 rh0 rfl).trans ((fm_I g100 rh0 rfl).trans ((fm_I g68 rh0 rfl).trans ((fm_I g36 rh0 rfl).trans ((fm_I g4 rh0 rfl).trans mF15)))))))
              have m155 : oJ (f148 h0) 16 = pW := ((fm_J g150 rh0 rfl).trans ((fm_J g142 rh0 rfl).trans ((fm_J g107 rh0 rfl).trans ((fm_J g100 rh0 rfl).trans ((fm_J g68 rh0 rfl).trans ((fm_J g36 rh0 rfl).trans ((fm_J g4 rh0 rfl).trans mW)))))))
              have hF := FM.tr hF g150 rfl
              refine q_if_eq (tgt := 138) hx hb dX12_partAt_131 (by decide) rfl (fun c156 => ?_) (fun c156 => ?_)
              · clear p152
                refine lv_aload_n hx hb dX12_partAt_138 rfl (lv_at hl 0 rfl) ?_
                refine lv_ldc2 (v := 201778) hx hb hown (hts _ tw_1869) dX12_partAt_139 ?_
                refine t_callV (As := [.long 201778]) (rest := []) E hW (c_X12_isWord l G cI cJ cZ cD cR cT kp L f148 hW.2.2.2 _ h0 201778 rh0 (by decide)) rh0 (by decide) rfl wk_X12_isWord tw_1797 rfl ⟨Nat.le_of_ble_eq_true rfl, Nat.le_of_ble_eq_true rfl⟩ ⟨rfl, rfl⟩ hl.1 rfl (Nat.le_of_ble_eq_true rfl) dX12_partAt_142 ⟨Nat.le_of_ble_eq_true rfl, Nat.le_of_ble_eq_true rfl⟩ (fun v157 f158 H locs q159 hW => ?_)
                obtain ⟨⟨x161, rfl, p162⟩, g160⟩ := q159
                simp only [m154, m155] at p162
                have p162 : (x161.toInt = 1 ∧ pF15.toInt = 1 ∧ pW.toInt = 201778) ∨ x161.toInt = 0 := p162
                have hF := FM.tr hF g160 rfl
                refine q_if_eq (tgt := 153) hx hb dX12_partAt_145 (by decide) rfl (fun c163 => ?_) (fun c163 => ?_)
                · clear p162
                  refine lv_aload_n hx hb dX12_partAt_153 rfl (lv_at hl 0 rfl) ?_
                  refine lv_ldc2 (v := 11566) hx hb hown (hts _ tw_1870) dX12_partAt_154 ?_
                  refine t_callV (As := [.long 11566]) (rest := []) E hW (c_X12_isWord l G cI cJ cZ cD cR cT kp L f158 hW.2.2.2 _ h0 11566 rh0 (by decide)) rh0 (by decide) rfl wk_X12_isWord tw_1797 rfl ⟨Nat.le_of_ble_eq_true rfl, Nat.le_of_ble_eq_true rfl⟩ ⟨rfl, rfl⟩ hl.1 rfl (Nat.le_of_ble_eq_true rfl) dX12_partAt_157 ⟨Nat.le_of_ble_eq_true rfl, Nat.le_of_ble_eq_true rfl⟩ (fun v164 f165 H locs q166 hW => ?_)
                  obtain ⟨⟨x168, rfl, p169⟩, g167⟩ := q166
                  simp only [((fm_I g160 rh0 rfl).trans m154), ((fm_J g160 rh0 rfl).trans m155)] at p169
                  have p169 : (x168.toInt = 1 ∧ pF15.toInt = 1 ∧ pW.toInt = 11566) ∨ x168.toInt = 0 := p169
                  have hF := FM.tr hF g167 rfl
                  refine q_if_eq (tgt := 168) hx hb dX12_partAt_160 (by decide) rfl (fun c170 => ?_) (fun c170 => ?_)
                  · clear p169
                    refine lv_bipush (v := 8) hx hb dX12_partAt_168 (by decide) ?_
                    exact e_I E hW rfl ⟨⟨_, rfl, (by rw [mF15]; have hk : (8 : Int32).toInt = 8 := rfl; first | omega | trivial)⟩, hF⟩ dX12_partAt_170
                  · have q171 : pF15.toInt = 1 ∧ pW.toInt = 11566 := by omega
                    clear p169
                    refine lv_bipush (v := 7) hx hb dX12_partAt_163 (by decide) ?_
                    refine lv_goto (tgt := 170) hx hb dX12_partAt_165 (by decide) ?_
                    exact e_I E hW rfl ⟨⟨_, rfl, (by rw [mF15]; have hk : (7 : Int32).toInt = 7 := rfl; first | omega | trivial)⟩, hF⟩ dX12_partAt_170
                · have q172 : pF15.toInt = 1 ∧ pW.toInt = 201778 := by omega
                  clear p162
                  refine lv_bipush (v := 6) hx hb dX12_partAt_148 (by decide) ?_
                  refine lv_goto (tgt := 170) hx hb dX12_partAt_150 (by decide) ?_
                  exact e_I E hW rfl ⟨⟨_, rfl, (by rw [mF15]; have hk : (6 : Int32).toInt = 6 := rfl; first | omega | trivial)⟩, hF⟩ dX12_partAt_170
              · have q173 : pF15.toInt = 1 ∧ pW.toInt = 19959155 := by omega
                clear p152
                refine lv_iconst (v := 5) hx hb dX12_partAt_134 (by decide) ?_
                refine lv_goto (tgt := 170) hx hb dX12_partAt_135 (by decide) ?_
                exact e_I E hW rfl ⟨⟨_, rfl, (by rw [mF15]; have hk : (5 : Int32).toInt = 5 := rfl; first | omega | trivial)⟩, hF⟩ dX12_partAt_170
            · clear p144
              refine lv_aload_n hx hb dX12_partAt_104 rfl (lv_at hl 0 rfl) ?_
              refine lv_ldc2 (v := 11566) hx hb hown (hts _ tw_1870) dX12_partAt_105 ?_
              refine t_callV (As := [.long 11566]) (rest := []) E hW (c_X12_isWord l G cI cJ cZ cD cR cT kp L f140 hW.2.2.2 _ h0 11566 rh0 (by decide)) rh0 (by decide) rfl wk_X12_isWord tw_1797 rfl ⟨Nat.le_of_ble_eq_true rfl, Nat.le_of_ble_eq_true rfl⟩ ⟨rfl, rfl⟩ hl.1 rfl (Nat.le_of_ble_eq_true rfl) dX12_partAt_108 ⟨Nat.le_of_ble_eq_true rfl, Nat.le_of_ble_eq_true rfl⟩ (fun v174 f175 H locs q176 hW => ?_)
              obtain ⟨⟨x178, rfl, p179⟩, g177⟩ := q176
              simp only [((fm_I g142 rh0 rfl).trans ((fm_I g107 rh0 rfl).trans ((fm_I g100 rh0 rfl).trans ((fm_I g68 rh0 rfl).trans ((fm_I g36 rh0 rfl).trans ((fm_I g4 rh0 rfl).trans mF15)))))), ((fm_J g142 rh0 rfl).trans ((fm_J g107 rh0 rfl).trans ((fm_J g100 rh0 rfl).trans ((fm_J g68 rh0 rfl).trans ((fm_J g36 rh0 rfl).trans ((fm_J g4 rh0 rfl).trans mW))))))] at p179
              have p179 : (x178.toInt = 1 ∧ pF15.toInt = 1 ∧ pW.toInt = 11566) ∨ x178.toInt = 0 := p179
              have m180 : oR (f175 h0) 2 = pR := ((fm_R g177 rh0 rfl).trans ((fm_R g142 rh0 rfl).trans ((fm_R g107 rh0 rfl).trans ((fm_R g100 rh0 rfl).trans ((fm_R g68 rh0 rfl).trans ((fm_R g36 rh0 rfl).trans ((fm_R g4 rh0 rfl).trans mR)))))))
              have m181 : oI (f175 h0) 15 = pF15 := ((fm_I g177 rh0 rfl).trans ((fm_I g142 rh0 rfl).trans ((fm_I g107 rh0 rfl).trans ((fm_I g100 rh0 rfl).trans ((fm_I g68 rh0 rfl).trans ((fm_I g36 rh0 rfl).trans ((fm_I g4 rh0 rfl).trans mF15)))))))
              have m182 : oJ (f175 h0) 16 = pW := ((fm_J g177 rh0 rfl).trans ((fm_J g142 rh0 rfl).trans ((fm_J g107 rh0 rfl).trans ((fm_J g100 rh0 rfl).trans ((fm_J g68 rh0 rfl).trans ((fm_J g36 rh0 rfl).trans ((fm_J g4 rh0 rfl).trans mW)))))))
              have hF := FM.tr hF g177 rfl
              refine q_if_ne (tgt := 124) hx hb dX12_partAt_111 (by decide) rfl (fun c183 => ?_) (fun c183 => ?_)
              · have q184 : pF15.toInt = 1 ∧ pW.toInt = 11566 := by omega
                clear p179
                refine lv_aload_n hx hb dX12_partAt_124 rfl (lv_at hl 0 rfl) ?_
                refine lv_ldc2 (v := 19959155) hx hb hown (hts _ tw_1868) dX12_partAt_125 ?_
                refine t_callV (As := [.long 19959155]) (rest := []) E hW (c_X12_isWord l G cI cJ cZ cD cR cT kp L f175 hW.2.2.2 _ h0 19959155 rh0 (by decide)) rh0 (by decide) rfl wk_X12_isWord tw_1797 rfl ⟨Nat.le_of_ble_eq_true rfl, Nat.le_of_ble_eq_true rfl⟩ ⟨rfl, rfl⟩ hl.1 rfl (Nat.le_of_ble_eq_true rfl) dX12_partAt_128 ⟨Nat.le_of_ble_eq_true rfl, Nat.le_of_ble_eq_true rfl⟩ (fun v185 f186 H locs q187 hW => ?_)
                obtain ⟨⟨x189, rfl, p190⟩, g188⟩ := q187
                simp only [m181, m182] at p190
                have p190 : (x189.toInt = 1 ∧ pF15.toInt = 1 ∧ pW.toInt = 19959155) ∨ x189.toInt = 0 := p190
                have hF := FM.tr hF g188 rfl
                refine q_if_eq (tgt := 138) hx hb dX12_partAt_131 (by decide) rfl (fun c191 => ?_) (fun c191 => ?_)
                · clear p190
                  refine lv_aload_n hx hb dX12_partAt_138 rfl (lv_at hl 0 rfl) ?_
                  refine lv_ldc2 (v := 201778) hx hb hown (hts _ tw_1869) dX12_partAt_139 ?_
                  refine t_callV (As := [.long 201778]) (rest := []) E hW (c_X12_isWord l G cI cJ cZ cD cR cT kp L f186 hW.2.2.2 _ h0 201778 rh0 (by decide)) rh0 (by decide) rfl wk_X12_isWord tw_1797 rfl ⟨Nat.le_of_ble_eq_true rfl, Nat.le_of_ble_eq_true rfl⟩ ⟨rfl, rfl⟩ hl.1 rfl (Nat.le_of_ble_eq_true rfl) dX12_partAt_142 ⟨Nat.le_of_ble_eq_true rfl, Nat.le_of_ble_eq_true rfl⟩ (fun v192 f193 H locs q194 hW => ?_)
                  obtain ⟨⟨x196, rfl, p197⟩, g195⟩ := q194
                  simp only [((fm_I g188 rh0 rfl).trans m181), ((fm_J g188 rh0 rfl).trans m182)] at p197
                  have p197 : (x196.toInt = 1 ∧ pF15.toInt = 1 ∧ pW.toInt = 201778) ∨ x196.toInt = 0 := p197
                  have hF := FM.tr hF g195 rfl
                  refine q_if_eq (tgt := 153) hx hb dX12_partAt_145 (by decide) rfl (fun c198 => ?_) (fun c198 => ?_)
                  · clear p197
                    refine lv_aload_n hx hb dX12_partAt_153 rfl (lv_at hl 0 rfl) ?_
                    refine lv_ldc2 (v := 11566) hx hb hown (hts _ tw_1870) dX12_partAt_154 ?_
                    refine t_callV (As := [.long 11566]) (rest := []) E hW (c_X12_isWord l G cI cJ cZ cD cR cT kp L f193 hW.2.2.2 _ h0 11566 rh0 (by decide)) rh0 (by decide) rfl wk_X12_isWord tw_1797 rfl ⟨Nat.le_of_ble_eq_true rfl, Nat.le_of_ble_eq_true rfl⟩ ⟨rfl, rfl⟩ hl.1 rfl (Nat.le_of_ble_eq_true rfl) dX12_partAt_157 ⟨Nat.le_of_ble_eq_true rfl, Nat.le_of_ble_eq_true rfl⟩ (fun v199 f200 H locs q201 hW => ?_)
                    obtain ⟨⟨x203, rfl, p204⟩, g202⟩ := q201
                    simp only [((fm_I g195 rh0 rfl).trans ((fm_I g188 rh0 rfl).trans m181)), ((fm_J g195 rh0 rfl).trans ((fm_J g188 rh0 rfl).trans m182))] at p204
                    have p204 : (x203.toInt = 1 ∧ pF15.toInt = 1 ∧ pW.toInt = 11566) ∨ x203.toInt = 0 := p204
                    have hF := FM.tr hF g202 rfl
                    refine q_if_eq (tgt := 168) hx hb dX12_partAt_160 (by decide) rfl (fun c205 => ?_) (fun c205 => ?_)
                    · clear p204
                      refine lv_bipush (v := 8) hx hb dX12_partAt_168 (by decide) ?_
                      exact e_I E hW rfl ⟨⟨_, rfl, (by rw [mF15]; have hk : (8 : Int32).toInt = 8 := rfl; first | omega | trivial)⟩, hF⟩ dX12_partAt_170
                    · have q206 : pF15.toInt = 1 ∧ pW.toInt = 11566 := by omega
                      clear p204
                      refine lv_bipush (v := 7) hx hb dX12_partAt_163 (by decide) ?_
                      refine lv_goto (tgt := 170) hx hb dX12_partAt_165 (by decide) ?_
                      exact e_I E hW rfl ⟨⟨_, rfl, (by rw [mF15]; have hk : (7 : Int32).toInt = 7 := rfl; first | omega | trivial)⟩, hF⟩ dX12_partAt_170
                  · have q207 : pF15.toInt = 1 ∧ pW.toInt = 201778 := by omega
                    clear p197
                    refine lv_bipush (v := 6) hx hb dX12_partAt_148 (by decide) ?_
                    refine lv_goto (tgt := 170) hx hb dX12_partAt_150 (by decide) ?_
                    exact e_I E hW rfl ⟨⟨_, rfl, (by rw [mF15]; have hk : (6 : Int32).toInt = 6 := rfl; first | omega | trivial)⟩, hF⟩ dX12_partAt_170
                · have q208 : pF15.toInt = 1 ∧ pW.toInt = 19959155 := by omega
                  clear p190
                  refine lv_iconst (v := 5) hx hb dX12_partAt_134 (by decide) ?_
                  refine lv_goto (tgt := 170) hx hb dX12_partAt_135 (by decide) ?_
                  exact e_I E hW rfl ⟨⟨_, rfl, (by rw [mF15]; have hk : (5 : Int32).toInt = 5 := rfl; first | omega | trivial)⟩, hF⟩ dX12_partAt_170
              · clear p179
                refine lv_aload_n hx hb dX12_partAt_114 rfl (lv_at hl 0 rfl) ?_
                refine lv_ldc2 (v := 758955) hx hb hown (hts _ tw_1871) dX12_partAt_115 ?_
                refine t_callV (As := [.long 758955]) (rest := []) E hW (c_X12_isWord l G cI cJ cZ cD cR cT kp L f175 hW.2.2.2 _ h0 758955 rh0 (by decide)) rh0 (by decide) rfl wk_X12_isWord tw_1797 rfl ⟨Nat.le_of_ble_eq_true rfl, Nat.le_of_ble_eq_true rfl⟩ ⟨rfl, rfl⟩ hl.1 rfl (Nat.le_of_ble_eq_true rfl) dX12_partAt_118 ⟨Nat.le_of_ble_eq_true rfl, Nat.le_of_ble_eq_true rfl⟩ (fun v209 f210 H locs q211 hW => ?_)
                obtain ⟨⟨x213, rfl, p214⟩, g212⟩ := q211
                simp only [m181, m182] at p214
                have p214 : (x213.toInt = 1 ∧ pF15.toInt = 1 ∧ pW.toInt = 758955) ∨ x213.toInt = 0 := p214
                have hF := FM.tr hF g212 rfl
                refine q_if_eq (tgt := 171) hx hb dX12_partAt_121 (by decide) rfl (fun c215 => ?_) (fun c215 => ?_)
                · clear p214
                  refine lv_aload_n hx hb dX12_partAt_171 rfl (lv_at hl 0 rfl) ?_
                  refine lv_ldc2 (v := 17376357) hx hb hown (hts _ tw_1872) dX12_partAt_172 ?_
                  refine t_callV (As := [.long 17376357]) (rest := []) E hW (c_X12_isWord l G cI cJ cZ cD cR cT kp L f210 hW.2.2.2 _ h0 17376357 rh0 (by decide)) rh0 (by decide) rfl wk_X12_isWord tw_1797 rfl ⟨Nat.le_of_ble_eq_true rfl, Nat.le_of_ble_eq_true rfl⟩ ⟨rfl, rfl⟩ hl.1 rfl (Nat.le_of_ble_eq_true rfl) dX12_partAt_175 ⟨Nat.le_of_ble_eq_true rfl, Nat.le_of_ble_eq_true rfl⟩ (fun v216 f217 H locs q218 hW => ?_)
                  obtain ⟨⟨x220, rfl, p221⟩, g219⟩ := q218
                  simp only [((fm_I g212 rh0 rfl).trans m181), ((fm_J g212 rh0 rfl).trans m182)] at p221
                  have p221 : (x220.toInt = 1 ∧ pF15.toInt = 1 ∧ pW.toInt = 17376357) ∨ x220.toInt = 0 := p221
                  have hF := FM.tr hF g219 rfl
                  refine q_if_eq (tgt := 186) hx hb dX12_partAt_178 (by decide) rfl (fun c222 => ?_) (fun c222 => ?_)
                  · clear p221
                    refine lv_aload_n hx hb dX12_partAt_186 rfl (lv_at hl 0 rfl) ?_
                    refine lv_ldc2 (v := 188352133) hx hb hown (hts _ tw_1873) dX12_partAt_187 ?_
                    refine t_callV (As := [.long 188352133]) (rest := []) E hW (c_X12_isWord l G cI cJ cZ cD cR cT kp L f217 hW.2.2.2 _ h0 188352133 rh0 (by decide)) rh0 (by decide) rfl wk_X12_isWord tw_1797 rfl ⟨Nat.le_of_ble_eq_true rfl, Nat.le_of_ble_eq_true rfl⟩ ⟨rfl, rfl⟩ hl.1 rfl (Nat.le_of_ble_eq_true rfl) dX12_partAt_190 ⟨Nat.le_of_ble_eq_true rfl, Nat.le_of_ble_eq_true rfl⟩ (fun v223 f224 H locs q225 hW => ?_)
                    obtain ⟨⟨x227, rfl, p228⟩, g226⟩ := q225
                    simp only [((fm_I g219 rh0 rfl).trans ((fm_I g212 rh0 rfl).trans m181)), ((fm_J g219 rh0 rfl).trans ((fm_J g212 rh0 rfl).trans m182))] at p228
                    have p228 : (x227.toInt = 1 ∧ pF15.toInt = 1 ∧ pW.toInt = 188352133) ∨ x227.toInt = 0 := p228
                    have hF := FM.tr hF g226 rfl
                    refine q_if_eq (tgt := 201) hx hb dX12_partAt_193 (by decide) rfl (fun c229 => ?_) (fun c229 => ?_)
                    · clear p228
                      refine lv_aload_n hx hb dX12_partAt_201 rfl (lv_at hl 0 rfl) ?_
                      refine lv_ldc2 (v := 8902245) hx hb hown (hts _ tw_1874) dX12_partAt_202 ?_
                      refine t_callV (As := [.long 8902245]) (rest := []) E hW (c_X12_isWord l G cI cJ cZ cD cR cT kp L f224 hW.2.2.2 _ h0 8902245 rh0 (by decide)) rh0 (by decide) rfl wk_X12_isWord tw_1797 rfl ⟨Nat.le_of_ble_eq_true rfl, Nat.le_of_ble_eq_true rfl⟩ ⟨rfl, rfl⟩ hl.1 rfl (Nat.le_of_ble_eq_true rfl) dX12_partAt_205 ⟨Nat.le_of_ble_eq_true rfl, Nat.le_of_ble_eq_true rfl⟩ (fun v230 f231 H locs q232 hW => ?_)
                      obtain ⟨⟨x234, rfl, p235⟩, g233⟩ := q232
                      simp only [((fm_I g226 rh0 rfl).trans ((fm_I g219 rh0 rfl).trans ((fm_I g212 rh0 rfl).trans m181))), ((fm_J g226 rh0 rfl).trans ((fm_J g219 rh0 rfl).trans ((fm_J g212 rh0 rfl).trans m182)))] at p235
                      have p235 : (x234.toInt = 1 ∧ pF15.toInt = 1 ∧ pW.toInt = 8902245) ∨ x234.toInt = 0 := p235
                      have hF := FM.tr hF g233 rfl
                      refine q_if_eq (tgt := 216) hx hb dX12_partAt_208 (by decide) rfl (fun c236 => ?_) (fun c236 => ?_)
                      · clear p235
                        refine lv_iconst (v := (-1)) hx hb dX12_partAt_216 (by decide) ?_
                        exact e_I E hW rfl ⟨⟨_, rfl, (by rw [mF15]; have hk : ((-1) : Int32).toInt = -1 := rfl; first | omega | trivial)⟩, hF⟩ dX12_partAt_217
                      · have q237 : pF15.toInt = 1 ∧ pW.toInt = 8902245 := by omega
                        clear p235
                        refine lv_bipush (v := 11) hx hb dX12_partAt_211 (by decide) ?_
                        refine lv_goto (tgt := 217) hx hb dX12_partAt_213 (by decide) ?_
                        exact e_I E hW rfl ⟨⟨_, rfl, (by rw [mF15]; have hk : (11 : Int32).toInt = 11 := rfl; first | omega | trivial)⟩, hF⟩ dX12_partAt_217
                    · have q238 : pF15.toInt = 1 ∧ pW.toInt = 188352133 := by omega
                      clear p228
                      refine lv_bipush (v := 10) hx hb dX12_partAt_196 (by decide) ?_
                      refine lv_goto (tgt := 217) hx hb dX12_partAt_198 (by decide) ?_
                      exact e_I E hW rfl ⟨⟨_, rfl, (by rw [mF15]; have hk : (10 : Int32).toInt = 10 := rfl; first | omega | trivial)⟩, hF⟩ dX12_partAt_217
                  · have q239 : pF15.toInt = 1 ∧ pW.toInt = 17376357 := by omega
                    clear p221
                    refine lv_bipush (v := 9) hx hb dX12_partAt_181 (by decide) ?_
                    refine lv_goto (tgt := 217) hx hb dX12_partAt_183 (by decide) ?_
                    exact e_I E hW rfl ⟨⟨_, rfl, (by rw [mF15]; have hk : (9 : Int32).toInt = 9 := rfl; first | omega | trivial)⟩, hF⟩ dX12_partAt_217
                · have q240 : pF15.toInt = 1 ∧ pW.toInt = 758955 := by omega
                  clear p214
                  refine lv_aload_n hx hb dX12_partAt_124 rfl (lv_at hl 0 rfl) ?_
                  refine lv_ldc2 (v := 19959155) hx hb hown (hts _ tw_1868) dX12_partAt_125 ?_
                  refine t_callV (As := [.long 19959155]) (rest := []) E hW (c_X12_isWord l G cI cJ cZ cD cR cT kp L f210 hW.2.2.2 _ h0 19959155 rh0 (by decide)) rh0 (by decide) rfl wk_X12_isWord tw_1797 rfl ⟨Nat.le_of_ble_eq_true rfl, Nat.le_of_ble_eq_true rfl⟩ ⟨rfl, rfl⟩ hl.1 rfl (Nat.le_of_ble_eq_true rfl) dX12_partAt_128 ⟨Nat.le_of_ble_eq_true rfl, Nat.le_of_ble_eq_true rfl⟩ (fun v241 f242 H locs q243 hW => ?_)
                  obtain ⟨⟨x245, rfl, p246⟩, g244⟩ := q243
                  simp only [((fm_I g212 rh0 rfl).trans m181), ((fm_J g212 rh0 rfl).trans m182)] at p246
                  have p246 : (x245.toInt = 1 ∧ pF15.toInt = 1 ∧ pW.toInt = 19959155) ∨ x245.toInt = 0 := p246
                  have hF := FM.tr hF g244 rfl
                  refine q_if_eq (tgt := 138) hx hb dX12_partAt_131 (by decide) rfl (fun c247 => ?_) (fun c247 => ?_)
                  · clear p246
                    refine lv_aload_n hx hb dX12_partAt_138 rfl (lv_at hl 0 rfl) ?_
                    refine lv_ldc2 (v := 201778) hx hb hown (hts _ tw_1869) dX12_partAt_139 ?_
                    refine t_callV (As := [.long 201778]) (rest := []) E hW (c_X12_isWord l G cI cJ cZ cD cR cT kp L f242 hW.2.2.2 _ h0 201778 rh0 (by decide)) rh0 (by decide) rfl wk_X12_isWord tw_1797 rfl ⟨Nat.le_of_ble_eq_true rfl, Nat.le_of_ble_eq_true rfl⟩ ⟨rfl, rfl⟩ hl.1 rfl (Nat.le_of_ble_eq_true rfl) dX12_partAt_142 ⟨Nat.le_of_ble_eq_true rfl, Nat.le_of_ble_eq_true rfl⟩ (fun v248 f249 H locs q250 hW => ?_)
                    obtain ⟨⟨x252, rfl, p253⟩, g251⟩ := q250
                    simp only [((fm_I g244 rh0 rfl).trans ((fm_I g212 rh0 rfl).trans m181)), ((fm_J g244 rh0 rfl).trans ((fm_J g212 rh0 rfl).trans m182))] at p253
                    have p253 : (x252.toInt = 1 ∧ pF15.toInt = 1 ∧ pW.toInt = 201778) ∨ x252.toInt = 0 := p253
                    have hF := FM.tr hF g251 rfl
                    refine q_if_eq (tgt := 153) hx hb dX12_partAt_145 (by decide) rfl (fun c254 => ?_) (fun c254 => ?_)
                    · clear p253
                      refine lv_aload_n hx hb dX12_partAt_153 rfl (lv_at hl 0 rfl) ?_
                      refine lv_ldc2 (v := 11566) hx hb hown (hts _ tw_1870) dX12_partAt_154 ?_
                      refine t_callV (As := [.long 11566]) (rest := []) E hW (c_X12_isWord l G cI cJ cZ cD cR cT kp L f249 hW.2.2.2 _ h0 11566 rh0 (by decide)) rh0 (by decide) rfl wk_X12_isWord tw_1797 rfl ⟨Nat.le_of_ble_eq_true rfl, Nat.le_of_ble_eq_true rfl⟩ ⟨rfl, rfl⟩ hl.1 rfl (Nat.le_of_ble_eq_true rfl) dX12_partAt_157 ⟨Nat.le_of_ble_eq_true rfl, Nat.le_of_ble_eq_true rfl⟩ (fun v255 f256 H locs q257 hW => ?_)
                      obtain ⟨⟨x259, rfl, p260⟩, g258⟩ := q257
                      simp only [((fm_I g251 rh0 rfl).trans ((fm_I g244 rh0 rfl).trans ((fm_I g212 rh0 rfl).trans m181))), ((fm_J g251 rh0 rfl).trans ((fm_J g244 rh0 rfl).trans ((fm_J g212 rh0 rfl).trans m182)))] at p260
                      have p260 : (x259.toInt = 1 ∧ pF15.toInt = 1 ∧ pW.toInt = 11566) ∨ x259.toInt = 0 := p260
                      have hF := FM.tr hF g258 rfl
                      refine q_if_eq (tgt := 168) hx hb dX12_partAt_160 (by decide) rfl (fun c261 => ?_) (fun c261 => ?_)
                      · clear p260
                        refine lv_bipush (v := 8) hx hb dX12_partAt_168 (by decide) ?_
                        exact e_I E hW rfl ⟨⟨_, rfl, (by rw [mF15]; have hk : (8 : Int32).toInt = 8 := rfl; first | omega | trivial)⟩, hF⟩ dX12_partAt_170
                      · have q262 : pF15.toInt = 1 ∧ pW.toInt = 11566 := by omega
                        clear p260
                        refine lv_bipush (v := 7) hx hb dX12_partAt_163 (by decide) ?_
                        refine lv_goto (tgt := 170) hx hb dX12_partAt_165 (by decide) ?_
                        exact e_I E hW rfl ⟨⟨_, rfl, (by rw [mF15]; have hk : (7 : Int32).toInt = 7 := rfl; first | omega | trivial)⟩, hF⟩ dX12_partAt_170
                    · have q263 : pF15.toInt = 1 ∧ pW.toInt = 201778 := by omega
                      clear p253
                      refine lv_bipush (v := 6) hx hb dX12_partAt_148 (by decide) ?_
                      refine lv_goto (tgt := 170) hx hb dX12_partAt_150 (by decide) ?_
                      exact e_I E hW rfl ⟨⟨_, rfl, (by rw [mF15]; have hk : (6 : Int32).toInt = 6 := rfl; first | omega | trivial)⟩, hF⟩ dX12_partAt_170
                  · have q264 : pF15.toInt = 1 ∧ pW.toInt = 19959155 := by omega
                    clear p246
                    refine lv_iconst (v := 5) hx hb dX12_partAt_134 (by decide) ?_
                    refine lv_goto (tgt := 170) hx hb dX12_partAt_135 (by decide) ?_
                    exact e_I E hW rfl ⟨⟨_, rfl, (by rw [mF15]; have hk : (5 : Int32).toInt = 5 := rfl; first | omega | trivial)⟩, hF⟩ dX12_partAt_170
        · have q265 : pF15.toInt = 1 ∧ pW.toInt = 113966 := by omega
          clear p102
          refine lv_aload_n hx hb dX12_partAt_40 rfl (lv_at hl 0 rfl) ?_
          refine lv_ldc2 (v := 24627848) hx hb hown (hts _ tw_1864) dX12_partAt_41 ?_
          refine t_callV (As := [.long 24627848]) (rest := []) E hW (c_X12_isWord l G cI cJ cZ cD cR cT kp L f98 hW.2.2.2 _ h0 24627848 rh0 (by decide)) rh0 (by decide) rfl wk_X12_isWord tw_1797 rfl ⟨Nat.le_of_ble_eq_true rfl, Nat.le_of_ble_eq_true rfl⟩ ⟨rfl, rfl⟩ hl.1 rfl (Nat.le_of_ble_eq_true rfl) dX12_partAt_44 ⟨Nat.le_of_ble_eq_true rfl, Nat.le_of_ble_eq_true rfl⟩ (fun v266 f267 H locs q268 hW => ?_)
          obtain ⟨⟨x270, rfl, p271⟩, g269⟩ := q268
          simp only [((fm_I g100 rh0 rfl).trans ((fm_I g68 rh0 rfl).trans ((fm_I g36 rh0 rfl).trans ((fm_I g4 rh0 rfl).trans mF15)))), ((fm_J g100 rh0 rfl).trans ((fm_J g68 rh0 rfl).trans ((fm_J g36 rh0 rfl).trans ((fm_J g4 rh0 rfl).trans mW))))] at p271
          have p271 : (x270.toInt = 1 ∧ pF15.toInt = 1 ∧ pW.toInt = 24627848) ∨ x270.toInt = 0 := p271
          have hF := FM.tr hF g269 rfl
          refine q_if_eq (tgt := 54) hx hb dX12_partAt_47 (by decide) rfl (fun c272 => ?_) (fun c272 => ?_)
          · clear p271
            refine lv_aload_n hx hb dX12_partAt_54 rfl (lv_at hl 0 rfl) ?_
            refine lv_ldc2 (v := 595412) hx hb hown (hts _ tw_1865) dX12_partAt_55 ?_
            refine t_callV (As := [.long 595412]) (rest := []) E hW (c_X12_isWord l G cI cJ cZ cD cR cT kp L f267 hW.2.2.2 _ h0 595412 rh0 (by decide)) rh0 (by decide) rfl wk_X12_isWord tw_1797 rfl ⟨Nat.le_of_ble_eq_true rfl, Nat.le_of_ble_eq_true rfl⟩ ⟨rfl, rfl⟩ hl.1 rfl (Nat.le_of_ble_eq_true rfl) dX12_partAt_58 ⟨Nat.le_of_ble_eq_true rfl, Nat.le_of_ble_eq_true rfl⟩ (fun v273 f274 H locs q275 hW => ?_)
            obtain ⟨⟨x277, rfl, p278⟩, g276⟩ := q275
            simp only [((fm_I g269 rh0 rfl).trans ((fm_I g100 rh0 rfl).trans ((fm_I g68 rh0 rfl).trans ((fm_I g36 rh0 rfl).trans ((fm_I g4 rh0 rfl).trans mF15))))), ((fm_J g269 rh0 rfl).trans ((fm_J g100 rh0 rfl).trans ((fm_J g68 rh0 rfl).trans ((fm_J g36 rh0 rfl).trans ((fm_J g4 rh0 rfl).trans mW)))))] at p278
            have p278 : (x277.toInt = 1 ∧ pF15.toInt = 1 ∧ pW.toInt = 595412) ∨ x277.toInt = 0 := p278
            have hF := FM.tr hF g276 rfl
            refine q_if_eq (tgt := 68) hx hb dX12_partAt_61 (by decide) rfl (fun c279 => ?_) (fun c279 => ?_)
            · clear p278
              refine lv_aload_n hx hb dX12_partAt_68 rfl (lv_at hl 0 rfl) ?_
              refine lv_ldc2 (v := 53023794) hx hb hown (hts _ tw_1866) dX12_partAt_69 ?_
              refine t_callV (As := [.long 53023794]) (rest := []) E hW (c_X12_isWord l G cI cJ cZ cD cR cT kp L f274 hW.2.2.2 _ h0 53023794 rh0 (by decide)) rh0 (by decide) rfl wk_X12_isWord tw_1797 rfl ⟨Nat.le_of_ble_eq_true rfl, Nat.le_of_ble_eq_true rfl⟩ ⟨rfl, rfl⟩ hl.1 rfl (Nat.le_of_ble_eq_true rfl) dX12_partAt_72 ⟨Nat.le_of_ble_eq_true rfl, Nat.le_of_ble_eq_true rfl⟩ (fun v280 f281 H locs q282 hW => ?_)
              obtain ⟨⟨x284, rfl, p285⟩, g283⟩ := q282
              simp only [((fm_I g276 rh0 rfl).trans ((fm_I g269 rh0 rfl).trans ((fm_I g100 rh0 rfl).trans ((fm_I g68 rh0 rfl).trans ((fm_I g36 rh0 rfl).trans ((fm_I g4 rh0 rfl).trans mF15)))))), ((fm_J g276 rh0 rfl).trans ((fm_J g269 rh0 rfl).trans ((fm_J g100 rh0 rfl).trans ((fm_J g68 rh0 rfl).trans ((fm_J g36 rh0 rfl).trans ((fm_J g4 rh0 rfl).trans mW))))))] at p285
              have p285 : (x284.toInt = 1 ∧ pF15.toInt = 1 ∧ pW.toInt = 53023794) ∨ x284.toInt = 0 := p285
              have m286 : oR (f281 h0) 2 = pR := ((fm_R g283 rh0 rfl).trans ((fm_R g276 rh0 rfl).trans ((fm_R g269 rh0 rfl).trans ((fm_R g100 rh0 rfl).trans ((fm_R g68 rh0 rfl).trans ((fm_R g36 rh0 rfl).trans ((fm_R g4 rh0 rfl).trans mR)))))))
              have m287 : oI (f281 h0) 15 = pF15 := ((fm_I g283 rh0 rfl).trans ((fm_I g276 rh0 rfl).trans ((fm_I g269 rh0 rfl).trans ((fm_I g100 rh0 rfl).trans ((fm_I g68 rh0 rfl).trans ((fm_I g36 rh0 rfl).trans ((fm_I g4 rh0 rfl).trans mF15)))))))
              have m288 : oJ (f281 h0) 16 = pW := ((fm_J g283 rh0 rfl).trans ((fm_J g276 rh0 rfl).trans ((fm_J g269 rh0 rfl).trans ((fm_J g100 rh0 rfl).trans ((fm_J g68 rh0 rfl).trans ((fm_J g36 rh0 rfl).trans ((fm_J g4 rh0 rfl).trans mW)))))))
              have hF := FM.tr hF g283 rfl
              refine q_if_eq (tgt := 82) hx hb dX12_partAt_75 (by decide) rfl (fun c289 => ?_) (fun c289 => ?_)
              · clear p285
                refine lv_iconst (v := 4) hx hb dX12_partAt_82 (by decide) ?_
                exact e_I E hW rfl ⟨⟨_, rfl, (by rw [mF15]; have hk : (4 : Int32).toInt = 4 := rfl; first | omega | trivial)⟩, hF⟩ dX12_partAt_83
              · have q290 : pF15.toInt = 1 ∧ pW.toInt = 53023794 := by omega
                clear p285
                refine lv_iconst (v := 3) hx hb dX12_partAt_78 (by decide) ?_
                refine lv_goto (tgt := 83) hx hb dX12_partAt_79 (by decide) ?_
                exact e_I E hW rfl ⟨⟨_, rfl, (by rw [mF15]; have hk : (3 : Int32).toInt = 3 := rfl; first | omega | trivial)⟩, hF⟩ dX12_partAt_83
            · have q291 : pF15.toInt = 1 ∧ pW.toInt = 595412 := by omega
              clear p278
              refine lv_iconst (v := 2) hx hb dX12_partAt_64 (by decide) ?_
              refine lv_goto (tgt := 83) hx hb dX12_partAt_65 (by decide) ?_
              exact e_I E hW rfl ⟨⟨_, rfl, (by rw [mF15]; have hk : (2 : Int32).toInt = 2 := rfl; first | omega | trivial)⟩, hF⟩ dX12_partAt_83
          · have q292 : pF15.toInt = 1 ∧ pW.toInt = 24627848 := by omega
            clear p271
            refine lv_iconst (v := 1) hx hb dX12_partAt_50 (by decide) ?_
            refine lv_goto (tgt := 83) hx hb dX12_partAt_51 (by decide) ?_
            exact e_I E hW rfl ⟨⟨_, rfl, (by rw [mF15]; have hk : (1 : Int32).toInt = 1 := rfl; first | omega | trivial)⟩, hF⟩ dX12_partAt_83
def ms_X12_plainAt : List (Nat × Nat) := []
def po_X12_plainAt (kp : Nat → Nat) (L : List Nat) (f0 : Nat → va_E) (h0 : Nat) : Option Value → (Nat → va_E) → Prop := fun v f => (∃ r : Int32, v = some (.int r) ∧ (r.toInt = -1 ∨ ((oI (f0 h0) 15).toInt = 1 ∧ 12 ≤ r.toInt ∧ r.toInt ≤ 15))) ∧ FM kp L ms_X12_plainAt f0 f
set_option maxHeartbeats 4000000 in
set_option maxRecDepth 100000 in
theorem c_X12_plainAt (l : Launch) (G : va_G) (cI cJ cZ cD cR cT : ClassId) (kp : Nat → Nat) (L : List Nat) (f0 : Nat → va_E) (hTH : TH cI cJ cZ cD cR cT kp L f0) (sz : Nat) (h0 : Nat) (rh0 : RK kp L h0 12) : Met l yX12_plainAt (Cond.code yX12_plainAt cX12_plainAt 1 (some .int) :: wTab) ({ frames := 2, cells := 0, slots := 0, locals := 62 }) (va_Pc [.ref h0] (PreW G (tys6 cI cJ cZ cD cR cT) (va_pl L f0) sz)) (QT (po_X12_plainAt kp L f0 h0) G cI cJ cZ cD cR cT (va_A (va_pl L f0) sz) kp L) 0 0 (va_A (va_pl L f0) sz) := by
  refine metT (by decide) (Nat.le_of_ble_eq_true rfl) hTH ?_
  intro p e s m below meth c A ls E hW hl
  obtain ⟨hx, hb, -, hml, hown, hts, -, -, -⟩ := id E
  have hF : FM kp L ms_X12_plainAt f0 f0 := FM.rf
  have hl : lv_has ls 1 [(0, .ref h0)] := hl
  obtain ⟨pF15, mF15⟩ : ∃ x : Int32, oI (f0 h0) 15 = x := ⟨_, rfl⟩
  have bF15 : (0 : Int) ≤ pF15.toInt ∧ pF15.toInt ≤ 3 := by rw [← mF15]; exact th_iv hW rh0 (by decide) (by decide) rfl
  obtain ⟨pW, mW⟩ : ∃ x : Int64, oJ (f0 h0) 16 = x := ⟨_, rfl⟩
  obtain ⟨pR, mR⟩ : ∃ x : Nat, oR (f0 h0) 2 = x := ⟨_, rfl⟩
  have rR : RK kp L pR 822 := by rw [← mR]; exact th_ref hTH rh0 (by decide) (by decide) rfl
  refine lv_aload_n hx hb dX12_plainAt_0 rfl (lv_at hl 0 rfl) ?_
  refine lv_ldc2 (v := 8892563) hx hb hown (hts _ tw_1844) dX12_plainAt_1 ?_
  refine t_callV (As := [.long 8892563]) (rest := []) E hW (c_X12_isWord l G cI cJ cZ cD cR cT kp L f0 hW.2.2.2 _ h0 8892563 rh0 (by decide)) rh0 (by decide) rfl wk_X12_isWord tw_1797 rfl ⟨Nat.le_of_ble_eq_true rfl, Nat.le_of_ble_eq_true rfl⟩ ⟨rfl, rfl⟩ hl.1 rfl (Nat.le_of_ble_eq_true rfl) dX12_plainAt_4 ⟨Nat.le_of_ble_eq_true rfl, Nat.le_of_ble_eq_true rfl⟩ (fun v1 f2 H locs q3 hW => ?_)
  obtain ⟨⟨x5, rfl, p6⟩, g4⟩ := q3
  simp only [mF15, mW] at p6
  have p6 : (x5.toInt = 1 ∧ pF15.toInt = 1 ∧ pW.toInt = 8892563) ∨ x5.toInt = 0 := p6
  have hF := FM.tr hF g4 rfl
  refine q_if_eq (tgt := 15) hx hb dX12_plainAt_7 (by decide) rfl (fun c7 => ?_) (fun c7 => ?_)
  · clear p6
    refine lv_aload_n hx hb dX12_plainAt_15 rfl (lv_at hl 0 rfl) ?_
    refine lv_ldc2 (v := 16052) hx hb hown (hts _ tw_1845) dX12_plainAt_16 ?_
    refine t_callV (As := [.long 16052]) (rest := []) E hW (c_X12_isWord l G cI cJ cZ cD cR cT kp L f2 hW.2.2.2 _ h0 16052 rh0 (by decide)) rh0 (by decide) rfl wk_X12_isWord tw_1797 rfl ⟨Nat.le_of_ble_eq_true rfl, Nat.le_of_ble_eq_true rfl⟩ ⟨rfl, rfl⟩ hl.1 rfl (Nat.le_of_ble_eq_true rfl) dX12_plainAt_19 ⟨Nat.le_of_ble_eq_true rfl, Nat.le_of_ble_eq_true rfl⟩ (fun v8 f9 H locs q10 hW => ?_)
    obtain ⟨⟨x12, rfl, p13⟩, g11⟩ := q10
    simp only [((fm_I g4 rh0 rfl).trans mF15), ((fm_J g4 rh0 rfl).trans mW)] at p13
    have p13 : (x12.toInt = 1 ∧ pF15.toInt = 1 ∧ pW.toInt = 16052) ∨ x12.toInt = 0 := p13
    have hF := FM.tr hF g11 rfl
    refine q_if_eq (tgt := 30) hx hb dX12_plainAt_22 (by decide) rfl (fun c14 => ?_) (fun c14 => ?_)
    · clear p13
      refine lv_aload_n hx hb dX12_plainAt_30 rfl (lv_at hl 0 rfl) ?_
      refine lv_ldc2 (v := 68630692) hx hb hown (hts _ tw_1846) dX12_plainAt_31 ?_
      refine t_callV (As := [.long 68630692]) (rest := []) E hW (c_X12_isWord l G cI cJ cZ cD cR cT kp L f9 hW.2.2.2 _ h0 68630692 rh0 (by decide)) rh0 (by decide) rfl wk_X12_isWord tw_1797 rfl ⟨Nat.le_of_ble_eq_true rfl, Nat.le_of_ble_eq_true rfl⟩ ⟨rfl, rfl⟩ hl.1 rfl (Nat.le_of_ble_eq_true rfl) dX12_plainAt_34 ⟨Nat.le_of_ble_eq_true rfl, Nat.le_of_ble_eq_true rfl⟩ (fun v15 f16 H locs q17 hW => ?_)
      obtain ⟨⟨x19, rfl, p20⟩, g18⟩ := q17
      simp only [((fm_I g11 rh0 rfl).trans ((fm_I g4 rh0 rfl).trans mF15)), ((fm_J g11 rh0 rfl).trans ((fm_J g4 rh0 rfl).trans mW))] at p20
      have p20 : (x19.toInt = 1 ∧ pF15.toInt = 1 ∧ pW.toInt = 68630692) ∨ x19.toInt = 0 := p20
      have hF := FM.tr hF g18 rfl
      refine q_if_eq (tgt := 45) hx hb dX12_plainAt_37 (by decide) rfl (fun c21 => ?_) (fun c21 => ?_)
      · clear p20
        refine lv_aload_n hx hb dX12_plainAt_45 rfl (lv_at hl 0 rfl) ?_
        refine lv_ldc2 (v := 7930963) hx hb hown (hts _ tw_1847) dX12_plainAt_46 ?_
        refine t_callV (As := [.long 7930963]) (rest := []) E hW (c_X12_isWord l G cI cJ cZ cD cR cT kp L f16 hW.2.2.2 _ h0 7930963 rh0 (by decide)) rh0 (by decide) rfl wk_X12_isWord tw_1797 rfl ⟨Nat.le_of_ble_eq_true rfl, Nat.le_of_ble_eq_true rfl⟩ ⟨rfl, rfl⟩ hl.1 rfl (Nat.le_of_ble_eq_true rfl) dX12_plainAt_49 ⟨Nat.le_of_ble_eq_true rfl, Nat.le_of_ble_eq_true rfl⟩ (fun v22 f23 H locs q24 hW => ?_)
        obtain ⟨⟨x26, rfl, p27⟩, g25⟩ := q24
        simp only [((fm_I g18 rh0 rfl).trans ((fm_I g11 rh0 rfl).trans ((fm_I g4 rh0 rfl).trans mF15))), ((fm_J g18 rh0 rfl).trans ((fm_J g11 rh0 rfl).trans ((fm_J g4 rh0 rfl).trans mW)))] at p27
        have p27 : (x26.toInt = 1 ∧ pF15.toInt = 1 ∧ pW.toInt = 7930963) ∨ x26.toInt = 0 := p27
        have hF := FM.tr hF g25 rfl
        refine q_if_eq (tgt := 60) hx hb dX12_plainAt_52 (by decide) rfl (fun c28 => ?_) (fun c28 => ?_)
        · clear p27
          refine lv_iconst (v := (-1)) hx hb dX12_plainAt_60 (by decide) ?_
          exact e_I E hW rfl ⟨⟨_, rfl, (by rw [mF15]; have hk : ((-1) : Int32).toInt = -1 := rfl; first | omega | trivial)⟩, hF⟩ dX12_plainAt_61
        · have q29 : pF15.toInt = 1 ∧ pW.toInt = 7930963 := by omega
          clear p27
          refine lv_bipush (v := 15) hx hb dX12_plainAt_55 (by decide) ?_
          refine lv_goto (tgt := 61) hx hb dX12_plainAt_57 (by decide) ?_
          exact e_I E hW rfl ⟨⟨_, rfl, (by rw [mF15]; have hk : (15 : Int32).toInt = 15 := rfl; first | omega | trivial)⟩, hF⟩ dX12_plainAt_61
      · have q30 : pF15.toInt = 1 ∧ pW.toInt = 68630692 := by omega
        clear p20
        refine lv_bipush (v := 14) hx hb dX12_plainAt_40 (by decide) ?_
        refine lv_goto (tgt := 61) hx hb dX12_plainAt_42 (by decide) ?_
        exact e_I E hW rfl ⟨⟨_, rfl, (by rw [mF15]; have hk : (14 : Int32).toInt = 14 := rfl; first | omega | trivial)⟩, hF⟩ dX12_plainAt_61
    · have q31 : pF15.toInt = 1 ∧ pW.toInt = 16052 := by omega
      clear p13
      refine lv_bipush (v := 13) hx hb dX12_plainAt_25 (by decide) ?_
      refine lv_goto (tgt := 61) hx hb dX12_plainAt_27 (by decide) ?_
      exact e_I E hW rfl ⟨⟨_, rfl, (by rw [mF15]; have hk : (13 : Int32).toInt = 13 := rfl; first | omega | trivial)⟩, hF⟩ dX12_plainAt_61
  · have q32 : pF15.toInt = 1 ∧ pW.toInt = 8892563 := by omega
    clear p6
    refine lv_bipush (v := 12) hx hb dX12_plainAt_10 (by decide) ?_
    refine lv_goto (tgt := 61) hx hb dX12_plainAt_12 (by decide) ?_
    exact e_I E hW rfl ⟨⟨_, rfl, (by rw [mF15]; have hk : (12 : Int32).toInt = 12 := rfl; first | omega | trivial)⟩, hF⟩ dX12_plainAt_61
def ms_X12_headAt : List (Nat × Nat) := []
def po_X12_headAt (kp : Nat → Nat) (L : List Nat) (f0 : Nat → va_E) (h0 : Nat) : Option Value → (Nat → va_E) → Prop := fun v f => (∃ r : Int32, v = some (.int r) ∧ (r.toInt = -1 ∨ ((oI (f0 h0) 15).toInt = 1 ∧ 0 ≤ r.toInt ∧ r.toInt ≤ 6))) ∧ FM kp L ms_X12_headAt f0 f
set_option maxHeartbeats 4000000 in
set_option maxRecDepth 100000 in
theorem c_X12_headAt (l : Launch) (G : va_G) (cI cJ cZ cD cR cT : ClassId) (kp : Nat → Nat) (L : List Nat) (f0 : Nat → va_E) (hTH : TH cI cJ cZ cD cR cT kp L f0) (sz : Nat) (h0 : Nat) (rh0 : RK kp L h0 12) : Met l yX12_headAt (Cond.code yX12_headAt cX12_headAt 1 (some .int) :: wTab) ({ frames := 2, cells := 0, slots := 0, locals := 62 }) (va_Pc [.ref h0] (PreW G (tys6 cI cJ cZ cD cR cT) (va_pl L f0) sz)) (QT (po_X12_headAt kp L f0 h0) G cI cJ cZ cD cR cT (va_A (va_pl L f0) sz) kp L) 0 0 (va_A (va_pl L f0) sz) := by
  refine metT (by decide) (Nat.le_of_ble_eq_true rfl) hTH ?_
  intro p e s m below meth c A ls E hW hl
  obtain ⟨hx, hb, -, hml, hown, hts, -, -, -⟩ := id E
  have hF : FM kp L ms_X12_headAt f0 f0 := FM.rf
  have hl : lv_has ls 1 [(0, .ref h0)] := hl
  obtain ⟨pF15, mF15⟩ : ∃ x : Int32, oI (f0 h0) 15 = x := ⟨_, rfl⟩
  have bF15 : (0 : Int) ≤ pF15.toInt ∧ pF15.toInt ≤ 3 := by rw [← mF15]; exact th_iv hW rh0 (by decide) (by decide) rfl
  obtain ⟨pW, mW⟩ : ∃ x : Int64, oJ (f0 h0) 16 = x := ⟨_, rfl⟩
  obtain ⟨pR, mR⟩ : ∃ x : Nat, oR (f0 h0) 2 = x := ⟨_, rfl⟩
  have rR : RK kp L pR 822 := by rw [← mR]; exact th_ref hTH rh0 (by decide) (by decide) rfl
  refine lv_aload_n hx hb dX12_headAt_0 rfl (lv_at hl 0 rfl) ?_
  refine lv_ldc2 (v := 659105125) hx hb hown (hts _ tw_1796) dX12_headAt_1 ?_
  refine t_callV (As := [.long 659105125]) (rest := []) E hW (c_X12_isWord l G cI cJ cZ cD cR cT kp L f0 hW.2.2.2 _ h0 659105125 rh0 (by decide)) rh0 (by decide) rfl wk_X12_isWord tw_1797 rfl ⟨Nat.le_of_ble_eq_true rfl, Nat.le_of_ble_eq_true rfl⟩ ⟨rfl, rfl⟩ hl.1 rfl (Nat.le_of_ble_eq_true rfl) dX12_headAt_4 ⟨Nat.le_of_ble_eq_true rfl, Nat.le_of_ble_eq_true rfl⟩ (fun v1 f2 H locs q3 hW => ?_)
  obtain ⟨⟨x5, rfl, p6⟩, g4⟩ := q3
  simp only [mF15, mW] at p6
  have p6 : (x5.toInt = 1 ∧ pF15.toInt = 1 ∧ pW.toInt = 659105125) ∨ x5.toInt = 0 := p6
  have hF := FM.tr hF g4 rfl
  refine q_if_ne (tgt := 40) hx hb dX12_headAt_7 (by decide) rfl (fun c7 => ?_) (fun c7 => ?_)
  · have q8 : pF15.toInt = 1 ∧ pW.toInt = 659105125 := by omega
    clear p6
    refine lv_aload_n hx hb dX12_headAt_40 rfl (lv_at hl 0 rfl) ?_
    refine lv_ldc2 (v := 659105125) hx hb hown (hts _ tw_1796) dX12_headAt_41 ?_
    refine t_callV (As := [.long 659105125]) (rest := []) E hW (c_X12_isWord l G cI cJ cZ cD cR cT kp L f2 hW.2.2.2 _ h0 659105125 rh0 (by decide)) rh0 (by decide) rfl wk_X12_isWord tw_1797 rfl ⟨Nat.le_of_ble_eq_true rfl, Nat.le_of_ble_eq_true rfl⟩ ⟨rfl, rfl⟩ hl.1 rfl (Nat.le_of_ble_eq_true rfl) dX12_headAt_44 ⟨Nat.le_of_ble_eq_true rfl, Nat.le_of_ble_eq_true rfl⟩ (fun v9 f10 H locs q11 hW => ?_)
    obtain ⟨⟨x13, rfl, p14⟩, g12⟩ := q11
    simp only [((fm_I g4 rh0 rfl).trans mF15), ((fm_J g4 rh0 rfl).trans mW)] at p14
    have p14 : (x13.toInt = 1 ∧ pF15.toInt = 1 ∧ pW.toInt = 659105125) ∨ x13.toInt = 0 := p14
    have hF := FM.tr hF g12 rfl
    refine q_if_eq (tgt := 54) hx hb dX12_headAt_47 (by decide) rfl (fun c15 => ?_) (fun c15 => ?_)
    · clear p14
      refine lv_aload_n hx hb dX12_headAt_54 rfl (lv_at hl 0 rfl) ?_
      refine lv_ldc2 (v := 643248) hx hb hown (hts _ tw_1801) dX12_headAt_55 ?_
      refine t_callV (As := [.long 643248]) (rest := []) E hW (c_X12_isWord l G cI cJ cZ cD cR cT kp L f10 hW.2.2.2 _ h0 643248 rh0 (by decide)) rh0 (by decide) rfl wk_X12_isWord tw_1797 rfl ⟨Nat.le_of_ble_eq_true rfl, Nat.le_of_ble_eq_true rfl⟩ ⟨rfl, rfl⟩ hl.1 rfl (Nat.le_of_ble_eq_true rfl) dX12_headAt_58 ⟨Nat.le_of_ble_eq_true rfl, Nat.le_of_ble_eq_true rfl⟩ (fun v16 f17 H locs q18 hW => ?_)
      obtain ⟨⟨x20, rfl, p21⟩, g19⟩ := q18
      simp only [((fm_I g12 rh0 rfl).trans ((fm_I g4 rh0 rfl).trans mF15)), ((fm_J g12 rh0 rfl).trans ((fm_J g4 rh0 rfl).trans mW))] at p21
      have p21 : (x20.toInt = 1 ∧ pF15.toInt = 1 ∧ pW.toInt = 643248) ∨ x20.toInt = 0 := p21
      have hF := FM.tr hF g19 rfl
      refine q_if_eq (tgt := 68) hx hb dX12_headAt_61 (by decide) rfl (fun c22 => ?_) (fun c22 => ?_)
      · clear p21
        refine lv_aload_n hx hb dX12_headAt_68 rfl (lv_at hl 0 rfl) ?_
        refine lv_ldc2 (v := 197938) hx hb hown (hts _ tw_1802) dX12_headAt_69 ?_
        refine t_callV (As := [.long 197938]) (rest := []) E hW (c_X12_isWord l G cI cJ cZ cD cR cT kp L f17 hW.2.2.2 _ h0 197938 rh0 (by decide)) rh0 (by decide) rfl wk_X12_isWord tw_1797 rfl ⟨Nat.le_of_ble_eq_true rfl, Nat.le_of_ble_eq_true rfl⟩ ⟨rfl, rfl⟩ hl.1 rfl (Nat.le_of_ble_eq_true rfl) dX12_headAt_72 ⟨Nat.le_of_ble_eq_true rfl, Nat.le_of_ble_eq_true rfl⟩ (fun v23 f24 H locs q25 hW => ?_)
        obtain ⟨⟨x27, rfl, p28⟩, g26⟩ := q25
        simp only [((fm_I g19 rh0 rfl).trans ((fm_I g12 rh0 rfl).trans ((fm_I g4 rh0 rfl).trans mF15))), ((fm_J g19 rh0 rfl).trans ((fm_J g12 rh0 rfl).trans ((fm_J g4 rh0 rfl).trans mW)))] at p28
        have p28 : (x27.toInt = 1 ∧ pF15.toInt = 1 ∧ pW.toInt = 197938) ∨ x27.toInt = 0 := p28
        have hF := FM.tr hF g26 rfl
        refine q_if_eq (tgt := 82) hx hb dX12_headAt_75 (by decide) rfl (fun c29 => ?_) (fun c29 => ?_)
        · clear p28
          refine lv_iconst (v := 3) hx hb dX12_headAt_82 (by decide) ?_
          exact e_I E hW rfl ⟨⟨_, rfl, (by rw [mF15]; have hk : (3 : Int32).toInt = 3 := rfl; first | omega | trivial)⟩, hF⟩ dX12_headAt_83
        · have q30 : pF15.toInt = 1 ∧ pW.toInt = 197938 := by omega
          clear p28
          refine lv_iconst (v := 2) hx hb dX12_headAt_78 (by decide) ?_
          refine lv_goto (tgt := 83) hx hb dX12_headAt_79 (by decide) ?_
          exact e_I E hW rfl ⟨⟨_, rfl, (by rw [mF15]; have hk : (2 : Int32).toInt = 2 := rfl; first | omega | trivial)⟩, hF⟩ dX12_headAt_83
      · have q31 : pF15.toInt = 1 ∧ pW.toInt = 643248 := by omega
        clear p21
        refine lv_iconst (v := 1) hx hb dX12_headAt_64 (by decide) ?_
        refine lv_goto (tgt := 83) hx hb dX12_headAt_65 (by decide) ?_
        exact e_I E hW rfl ⟨⟨_, rfl, (by rw [mF15]; have hk : (1 : Int32).toInt = 1 := rfl; first | omega | trivial)⟩, hF⟩ dX12_headAt_83
    · have q32 : pF15.toInt = 1 ∧ pW.toInt = 659105125 := by omega
      clear p14
      refine lv_iconst (v := 0) hx hb dX12_headAt_50 (by decide) ?_
      refine lv_goto (tgt := 83) hx hb dX12_headAt_51 (by decide) ?_
      exact e_I E hW rfl ⟨⟨_, rfl, (by rw [mF15]; have hk : (0 : Int32).toInt = 0 := rfl; first | omega | trivial)⟩, hF⟩ dX12_headAt_83
  · clear p6
    refine lv_aload_n hx hb dX12_headAt_10 rfl (lv_at hl 0 rfl) ?_
    refine lv_ldc2 (v := 643248) hx hb hown (hts _ tw_1801) dX12_headAt_11 ?_
    refine t_callV (As := [.long 643248]) (rest := []) E hW (c_X12_isWord l G cI cJ cZ cD cR cT kp L f2 hW.2.2.2 _ h0 643248 rh0 (by decide)) rh0 (by decide) rfl wk_X12_isWord tw_1797 rfl ⟨Nat.le_of_ble_eq_true rfl, Nat.le_of_ble_eq_true rfl⟩ ⟨rfl, rfl⟩ hl.1 rfl (Nat.le_of_ble_eq_true rfl) dX12_headAt_14 ⟨Nat.le_of_ble_eq_true rfl, Nat.le_of_ble_eq_true rfl⟩ (fun v33 f34 H locs q35 hW => ?_)
    obtain ⟨⟨x37, rfl, p38⟩, g36⟩ := q35
    simp only [((fm_I g4 rh0 rfl).trans mF15), ((fm_J g4 rh0 rfl).trans mW)] at p38
    have p38 : (x37.toInt = 1 ∧ pF15.toInt = 1 ∧ pW.toInt = 643248) ∨ x37.toInt = 0 := p38
    have hF := FM.tr hF g36 rfl
    refine q_if_ne (tgt := 40) hx hb dX12_headAt_17 (by decide) rfl (fun c39 => ?_) (fun c39 => ?_)
    · have q40 : pF15.toInt = 1 ∧ pW.toInt = 643248 := by omega
      clear p38
      refine lv_aload_n hx hb dX12_headAt_40 rfl (lv_at hl 0 rfl) ?_
      refine lv_ldc2 (v := 659105125) hx hb hown (hts _ tw_1796) dX12_headAt_41 ?_
      refine t_callV (As := [.long 659105125]) (rest := []) E hW (c_X12_isWord l G cI cJ cZ cD cR cT kp L f34 hW.2.2.2 _ h0 659105125 rh0 (by decide)) rh0 (by decide) rfl wk_X12_isWord tw_1797 rfl ⟨Nat.le_of_ble_eq_true rfl, Nat.le_of_ble_eq_true rfl⟩ ⟨rfl, rfl⟩ hl.1 rfl (Nat.le_of_ble_eq_true rfl) dX12_headAt_44 ⟨Nat.le_of_ble_eq_true rfl, Nat.le_of_ble_eq_true rfl⟩ (fun v41 f42 H locs q43 hW => ?_)
      obtain ⟨⟨x45, rfl, p46⟩, g44⟩ := q43
      simp only [((fm_I g36 rh0 rfl).trans ((fm_I g4 rh0 rfl).trans mF15)), ((fm_J g36 rh0 rfl).trans ((fm_J g4 rh0 rfl).trans mW))] at p46
      have p46 : (x45.toInt = 1 ∧ pF15.toInt = 1 ∧ pW.toInt = 659105125) ∨ x45.toInt = 0 := p46
      have hF := FM.tr hF g44 rfl
      refine q_if_eq (tgt := 54) hx hb dX12_headAt_47 (by decide) rfl (fun c47 => ?_) (fun c47 => ?_)
      · clear p46
        refine lv_aload_n hx hb dX12_headAt_54 rfl (lv_at hl 0 rfl) ?_
        refine lv_ldc2 (v := 643248) hx hb hown (hts _ tw_1801) dX12_headAt_55 ?_
        refine t_callV (As := [.long 643248]) (rest := []) E hW (c_X12_isWord l G cI cJ cZ cD cR cT kp L f42 hW.2.2.2 _ h0 643248 rh0 (by decide)) rh0 (by decide) rfl wk_X12_isWord tw_1797 rfl ⟨Nat.le_of_ble_eq_true rfl, Nat.le_of_ble_eq_true rfl⟩ ⟨rfl, rfl⟩ hl.1 rfl (Nat.le_of_ble_eq_true rfl) dX12_headAt_58 ⟨Nat.le_of_ble_eq_true rfl, Nat.le_of_ble_eq_true rfl⟩ (fun v48 f49 H locs q50 hW => ?_)
        obtain ⟨⟨x52, rfl, p53⟩, g51⟩ := q50
        simp only [((fm_I g44 rh0 rfl).trans ((fm_I g36 rh0 rfl).trans ((fm_I g4 rh0 rfl).trans mF15))), ((fm_J g44 rh0 rfl).trans ((fm_J g36 rh0 rfl).trans ((fm_J g4 rh0 rfl).trans mW)))] at p53
        have p53 : (x52.toInt = 1 ∧ pF15.toInt = 1 ∧ pW.toInt = 643248) ∨ x52.toInt = 0 := p53
        have hF := FM.tr hF g51 rfl
        refine q_if_eq (tgt := 68) hx hb dX12_headAt_61 (by decide) rfl (fun c54 => ?_) (fun c54 => ?_)
        · clear p53
          refine lv_aload_n hx hb dX12_headAt_68 rfl (lv_at hl 0 rfl) ?_
          refine lv_ldc2 (v := 197938) hx hb hown (hts _ tw_1802) dX12_headAt_69 ?_
          refine t_callV (As := [.long 197938]) (rest := []) E hW (c_X12_isWord l G cI cJ cZ cD cR cT kp L f49 hW.2.2.2 _ h0 197938 rh0 (by decide)) rh0 (by decide) rfl wk_X12_isWord tw_1797 rfl ⟨Nat.le_of_ble_eq_true rfl, Nat.le_of_ble_eq_true rfl⟩ ⟨rfl, rfl⟩ hl.1 rfl (Nat.le_of_ble_eq_true rfl) dX12_headAt_72 ⟨Nat.le_of_ble_eq_true rfl, Nat.le_of_ble_eq_true rfl⟩ (fun v55 f56 H locs q57 hW => ?_)
          obtain ⟨⟨x59, rfl, p60⟩, g58⟩ := q57
          simp only [((fm_I g51 rh0 rfl).trans ((fm_I g44 rh0 rfl).trans ((fm_I g36 rh0 rfl).trans ((fm_I g4 rh0 rfl).trans mF15)))), ((fm_J g51 rh0 rfl).trans ((fm_J g44 rh0 rfl).trans ((fm_J g36 rh0 rfl).trans ((fm_J g4 rh0 rfl).trans mW))))] at p60
          have p60 : (x59.toInt = 1 ∧ pF15.toInt = 1 ∧ pW.toInt = 197938) ∨ x59.toInt = 0 := p60
          have hF := FM.tr hF g58 rfl
          refine q_if_eq (tgt := 82) hx hb dX12_headAt_75 (by decide) rfl (fun c61 => ?_) (fun c61 => ?_)
          · clear p60
            refine lv_iconst (v := 3) hx hb dX12_headAt_82 (by decide) ?_
            exact e_I E hW rfl ⟨⟨_, rfl, (by rw [mF15]; have hk : (3 : Int32).toInt = 3 := rfl; first | omega | trivial)⟩, hF⟩ dX12_headAt_83
          · have q62 : pF15.toInt = 1 ∧ pW.toInt = 197938 := by omega
            clear p60
            refine lv_iconst (v := 2) hx hb dX12_headAt_78 (by decide) ?_
            refine lv_goto (tgt := 83) hx hb dX12_headAt_79 (by decide) ?_
            exact e_I E hW rfl ⟨⟨_, rfl, (by rw [mF15]; have hk : (2 : Int32).toInt = 2 := rfl; first | omega | trivial)⟩, hF⟩ dX12_headAt_83
        · have q63 : pF15.toInt = 1 ∧ pW.toInt = 643248 := by omega
          clear p53
          refine lv_iconst (v := 1) hx hb dX12_headAt_64 (by decide) ?_
          refine lv_goto (tgt := 83) hx hb dX12_headAt_65 (by decide) ?_
          exact e_I E hW rfl ⟨⟨_, rfl, (by rw [mF15]; have hk : (1 : Int32).toInt = 1 := rfl; first | omega | trivial)⟩, hF⟩ dX12_headAt_83
      · have q64 : pF15.toInt = 1 ∧ pW.toInt = 659105125 := by omega
        clear p46
        refine lv_iconst (v := 0) hx hb dX12_headAt_50 (by decide) ?_
        refine lv_goto (tgt := 83) hx hb dX12_headAt_51 (by decide) ?_
        exact e_I E hW rfl ⟨⟨_, rfl, (by rw [mF15]; have hk : (0 : Int32).toInt = 0 := rfl; first | omega | trivial)⟩, hF⟩ dX12_headAt_83
    · clear p38
      refine lv_aload_n hx hb dX12_headAt_20 rfl (lv_at hl 0 rfl) ?_
      refine lv_ldc2 (v := 197938) hx hb hown (hts _ tw_1802) dX12_headAt_21 ?_
      refine t_callV (As := [.long 197938]) (rest := []) E hW (c_X12_isWord l G cI cJ cZ cD cR cT kp L f34 hW.2.2.2 _ h0 197938 rh0 (by decide)) rh0 (by decide) rfl wk_X12_isWord tw_1797 rfl ⟨Nat.le_of_ble_eq_true rfl, Nat.le_of_ble_eq_true rfl⟩ ⟨rfl, rfl⟩ hl.1 rfl (Nat.le_of_ble_eq_true rfl) dX12_headAt_24 ⟨Nat.le_of_ble_eq_true rfl, Nat.le_of_ble_eq_true rfl⟩ (fun v65 f66 H locs q67 hW => ?_)
      obtain ⟨⟨x69, rfl, p70⟩, g68⟩ := q67
      simp only [((fm_I g36 rh0 rfl).trans ((fm_I g4 rh0 rfl).trans mF15)), ((fm_J g36 rh0 rfl).trans ((fm_J g4 rh0 rfl).trans mW))] at p70
      have p70 : (x69.toInt = 1 ∧ pF15.toInt = 1 ∧ pW.toInt = 197938) ∨ x69.toInt = 0 := p70
      have hF := FM.tr hF g68 rfl
      refine q_if_ne (tgt := 40) hx hb dX12_headAt_27 (by decide) rfl (fun c71 => ?_) (fun c71 => ?_)
      · have q72 : pF15.toInt = 1 ∧ pW.toInt = 197938 := by omega
        clear p70
        refine lv_aload_n hx hb dX12_headAt_40 rfl (lv_at hl 0 rfl) ?_
        refine lv_ldc2 (v := 659105125) hx hb hown (hts _ tw_1796) dX12_headAt_41 ?_
        refine t_callV (As := [.long 659105125]) (rest := []) E hW (c_X12_isWord l G cI cJ cZ cD cR cT kp L f66 hW.2.2.2 _ h0 659105125 rh0 (by decide)) rh0 (by decide) rfl wk_X12_isWord tw_1797 rfl ⟨Nat.le_of_ble_eq_true rfl, Nat.le_of_ble_eq_true rfl⟩ ⟨rfl, rfl⟩ hl.1 rfl (Nat.le_of_ble_eq_true rfl) dX12_headAt_44 ⟨Nat.le_of_ble_eq_true rfl, Nat.le_of_ble_eq_true rfl⟩ (fun v73 f74 H locs q75 hW => ?_)
        obtain ⟨⟨x77, rfl, p78⟩, g76⟩ := q75
        simp only [((fm_I g68 rh0 rfl).trans ((fm_I g36 rh0 rfl).trans ((fm_I g4 rh0 rfl).trans mF15))), ((fm_J g68 rh0 rfl).trans ((fm_J g36 rh0 rfl).trans ((fm_J g4 rh0 rfl).trans mW)))] at p78
        have p78 : (x77.toInt = 1 ∧ pF15.toInt = 1 ∧ pW.toInt = 659105125) ∨ x77.toInt = 0 := p78
        have hF := FM.tr hF g76 rfl
        refine q_if_eq (tgt := 54) hx hb dX12_headAt_47 (by decide) rfl (fun c79 => ?_) (fun c79 => ?_)
        · clear p78
          refine lv_aload_n hx hb dX12_headAt_54 rfl (lv_at hl 0 rfl) ?_
          refine lv_ldc2 (v := 643248) hx hb hown (hts _ tw_1801) dX12_headAt_55 ?_
          refine t_callV (As := [.long 643248]) (rest := []) E hW (c_X12_isWord l G cI cJ cZ cD cR cT kp L f74 hW.2.2.2 _ h0 643248 rh0 (by decide)) rh0 (by decide) rfl wk_X12_isWord tw_1797 rfl ⟨Nat.le_of_ble_eq_true rfl, Nat.le_of_ble_eq_true rfl⟩ ⟨rfl, rfl⟩ hl.1 rfl (Nat.le_of_ble_eq_true rfl) dX12_headAt_58 ⟨Nat.le_of_ble_eq_true rfl, Nat.le_of_ble_eq_true rfl⟩ (fun v80 f81 H locs q82 hW => ?_)
          obtain ⟨⟨x84, rfl, p85⟩, g83⟩ := q82
          simp only [((fm_I g76 rh0 rfl).trans ((fm_I g68 rh0 rfl).trans ((fm_I g36 rh0 rfl).trans ((fm_I g4 rh0 rfl).trans mF15)))), ((fm_J g76 rh0 rfl).trans ((fm_J g68 rh0 rfl).trans ((fm_J g36 rh0 rfl).trans ((fm_J g4 rh0 rfl).trans mW))))] at p85
          have p85 : (x84.toInt = 1 ∧ pF15.toInt = 1 ∧ pW.toInt = 643248) ∨ x84.toInt = 0 := p85
          have hF := FM.tr hF g83 rfl
          refine q_if_eq (tgt := 68) hx hb dX12_headAt_61 (by decide) rfl (fun c86 => ?_) (fun c86 => ?_)
          · clear p85
            refine lv_aload_n hx hb dX12_headAt_68 rfl (lv_at hl 0 rfl) ?_
            refine lv_ldc2 (v := 197938) hx hb hown (hts _ tw_1802) dX12_headAt_69 ?_
            refine t_callV (As := [.long 197938]) (rest := []) E hW (c_X12_isWord l G cI cJ cZ cD cR cT kp L f81 hW.2.2.2 _ h0 197938 rh0 (by decide)) rh0 (by decide) rfl wk_X12_isWord tw_1797 rfl ⟨Nat.le_of_ble_eq_true rfl, Nat.le_of_ble_eq_true rfl⟩ ⟨rfl, rfl⟩ hl.1 rfl (Nat.le_of_ble_eq_true rfl) dX12_headAt_72 ⟨Nat.le_of_ble_eq_true rfl, Nat.le_of_ble_eq_true rfl⟩ (fun v87 f88 H locs q89 hW => ?_)
            obtain ⟨⟨x91, rfl, p92⟩, g90⟩ := q89
            simp only [((fm_I g83 rh0 rfl).trans ((fm_I g76 rh0 rfl).trans ((fm_I g68 rh0 rfl).trans ((fm_I g36 rh0 rfl).trans ((fm_I g4 rh0 rfl).trans mF15))))), ((fm_J g83 rh0 rfl).trans ((fm_J g76 rh0 rfl).trans ((fm_J g68 rh0 rfl).trans ((fm_J g36 rh0 rfl).trans ((fm_J g4 rh0 rfl).trans mW)))))] at p92
            have p92 : (x91.toInt = 1 ∧ pF15.toInt = 1 ∧ pW.toInt = 197938) ∨ x91.toInt = 0 := p92
            have hF := FM.tr hF g90 rfl
            refine q_if_eq (tgt := 82) hx hb dX12_headAt_75 (by decide) rfl (fun c93 => ?_) (fun c93 => ?_)
            · clear p92
              refine lv_iconst (v := 3) hx hb dX12_headAt_82 (by decide) ?_
              exact e_I E hW rfl ⟨⟨_, rfl, (by rw [mF15]; have hk : (3 : Int32).toInt = 3 := rfl; first | omega | trivial)⟩, hF⟩ dX12_headAt_83
            · have q94 : pF15.toInt = 1 ∧ pW.toInt = 197938 := by omega
              clear p92
              refine lv_iconst (v := 2) hx hb dX12_headAt_78 (by decide) ?_
              refine lv_goto (tgt := 83) hx hb dX12_headAt_79 (by decide) ?_
              exact e_I E hW rfl ⟨⟨_, rfl, (by rw [mF15]; have hk : (2 : Int32).toInt = 2 := rfl; first | omega | trivial)⟩, hF⟩ dX12_headAt_83
          · have q95 : pF15.toInt = 1 ∧ pW.toInt = 643248 := by omega
            clear p85
            refine lv_iconst (v := 1) hx hb dX12_headAt_64 (by decide) ?_
            refine lv_goto (tgt := 83) hx hb dX12_headAt_65 (by decide) ?_
            exact e_I E hW rfl ⟨⟨_, rfl, (by rw [mF15]; have hk : (1 : Int32).toInt = 1 := rfl; first | omega | trivial)⟩, hF⟩ dX12_headAt_83
        · have q96 : pF15.toInt = 1 ∧ pW.toInt = 659105125 := by omega
          clear p78
          refine lv_iconst (v := 0) hx hb dX12_headAt_50 (by decide) ?_
          refine lv_goto (tgt := 83) hx hb dX12_headAt_51 (by decide) ?_
          exact e_I E hW rfl ⟨⟨_, rfl, (by rw [mF15]; have hk : (0 : Int32).toInt = 0 := rfl; first | omega | trivial)⟩, hF⟩ dX12_headAt_83
      · clear p70
        refine lv_aload_n hx hb dX12_headAt_30 rfl (lv_at hl 0 rfl) ?_
        refine lv_ldc2 (v := 149559) hx hb hown (hts _ tw_1803) dX12_headAt_31 ?_
        refine t_callV (As := [.long 149559]) (rest := []) E hW (c_X12_isWord l G cI cJ cZ cD cR cT kp L f66 hW.2.2.2 _ h0 149559 rh0 (by decide)) rh0 (by decide) rfl wk_X12_isWord tw_1797 rfl ⟨Nat.le_of_ble_eq_true rfl, Nat.le_of_ble_eq_true rfl⟩ ⟨rfl, rfl⟩ hl.1 rfl (Nat.le_of_ble_eq_true rfl) dX12_headAt_34 ⟨Nat.le_of_ble_eq_true rfl, Nat.le_of_ble_eq_true rfl⟩ (fun v97 f98 H locs q99 hW => ?_)
        obtain ⟨⟨x101, rfl, p102⟩, g100⟩ := q99
        simp only [((fm_I g68 rh0 rfl).trans ((fm_I g36 rh0 rfl).trans ((fm_I g4 rh0 rfl).trans mF15))), ((fm_J g68 rh0 rfl).trans ((fm_J g36 rh0 rfl).trans ((fm_J g4 rh0 rfl).trans mW)))] at p102
        have p102 : (x101.toInt = 1 ∧ pF15.toInt = 1 ∧ pW.toInt = 149559) ∨ x101.toInt = 0 := p102
        have hF := FM.tr hF g100 rfl
        refine q_if_eq (tgt := 84) hx hb dX12_headAt_37 (by decide) rfl (fun c103 => ?_) (fun c103 => ?_)
        · clear p102
          refine lv_aload_n hx hb dX12_headAt_84 rfl (lv_at hl 0 rfl) ?_
          refine lv_ldc2 (v := 365744) hx hb hown (hts _ tw_1804) dX12_headAt_85 ?_
          refine t_callV (As := [.long 365744]) (rest := []) E hW (c_X12_isWord l G cI cJ cZ cD cR cT kp L f98 hW.2.2.2 _ h0 365744 rh0 (by decide)) rh0 (by decide) rfl wk_X12_isWord tw_1797 rfl ⟨Nat.le_of_ble_eq_true rfl, Nat.le_of_ble_eq_true rfl⟩ ⟨rfl, rfl⟩ hl.1 rfl (Nat.le_of_ble_eq_true rfl) dX12_headAt_88 ⟨Nat.le_of_ble_eq_true rfl, Nat.le_of_ble_eq_true rfl⟩ (fun v104 f105 H locs q106 hW => ?_)
          obtain ⟨⟨x108, rfl, p109⟩, g107⟩ := q106
          simp only [((fm_I g100 rh0 rfl).trans ((fm_I g68 rh0 rfl).trans ((fm_I g36 rh0 rfl).trans ((fm_I g4 rh0 rfl).trans mF15)))), ((fm_J g100 rh0 rfl).trans ((fm_J g68 rh0 rfl).trans ((fm_J g36 rh0 rfl).trans ((fm_J g4 rh0 rfl).trans mW))))] at p109
          have p109 : (x108.toInt = 1 ∧ pF15.toInt = 1 ∧ pW.toInt = 365744) ∨ x108.toInt = 0 := p109
          have hF := FM.tr hF g107 rfl
          refine q_if_eq (tgt := 98) hx hb dX12_headAt_91 (by decide) rfl (fun c110 => ?_) (fun c110 => ?_)
          · clear p109
            refine lv_aload_n hx hb dX12_headAt_98 rfl (lv_at hl 0 rfl) ?_
            refine lv_ldc2 (v := 2094) hx hb hown (hts _ tw_1805) dX12_headAt_99 ?_
            refine t_callV (As := [.long 2094]) (rest := []) E hW (c_X12_isWord l G cI cJ cZ cD cR cT kp L f105 hW.2.2.2 _ h0 2094 rh0 (by decide)) rh0 (by decide) rfl wk_X12_isWord tw_1797 rfl ⟨Nat.le_of_ble_eq_true rfl, Nat.le_of_ble_eq_true rfl⟩ ⟨rfl, rfl⟩ hl.1 rfl (Nat.le_of_ble_eq_true rfl) dX12_headAt_102 ⟨Nat.le_of_ble_eq_true rfl, Nat.le_of_ble_eq_true rfl⟩ (fun v111 f112 H locs q113 hW => ?_)
            obtain ⟨⟨x115, rfl, p116⟩, g114⟩ := q113
            simp only [((fm_I g107 rh0 rfl).trans ((fm_I g100 rh0 rfl).trans ((fm_I g68 rh0 rfl).trans ((fm_I g36 rh0 rfl).trans ((fm_I g4 rh0 rfl).trans mF15))))), ((fm_J g107 rh0 rfl).trans ((fm_J g100 rh0 rfl).trans ((fm_J g68 rh0 rfl).trans ((fm_J g36 rh0 rfl).trans ((fm_J g4 rh0 rfl).trans mW)))))] at p116
            have p116 : (x115.toInt = 1 ∧ pF15.toInt = 1 ∧ pW.toInt = 2094) ∨ x115.toInt = 0 := p116
            have hF := FM.tr hF g114 rfl
            refine q_if_eq (tgt := 112) hx hb dX12_headAt_105 (by decide) rfl (fun c117 => ?_) (fun c117 => ?_)
            · clear p116
              refine lv_aload_n hx hb dX12_headAt_112 rfl (lv_at hl 0 rfl) ?_
              refine lv_ldc2 (v := 247842) hx hb hown (hts _ tw_1806) dX12_headAt_113 ?_
              refine t_callV (As := [.long 247842]) (rest := []) E hW (c_X12_isWord l G cI cJ cZ cD cR cT kp L f112 hW.2.2.2 _ h0 247842 rh0 (by decide)) rh0 (by decide) rfl wk_X12_isWord tw_1797 rfl ⟨Nat.le_of_ble_eq_true rfl, Nat.le_of_ble_eq_true rfl⟩ ⟨rfl, rfl⟩ hl.1 rfl (Nat.le_of_ble_eq_true rfl) dX12_headAt_116 ⟨Nat.le_of_ble_eq_true rfl, Nat.le_of_ble_eq_true rfl⟩ (fun v118 f119 H locs q120 hW => ?_)
              obtain ⟨⟨x122, rfl, p123⟩, g121⟩ := q120
              simp only [((fm_I g114 rh0 rfl).trans ((fm_I g107 rh0 rfl).trans ((fm_I g100 rh0 rfl).trans ((fm_I g68 rh0 rfl).trans ((fm_I g36 rh0 rfl).trans ((fm_I g4 rh0 rfl).trans mF15)))))), ((fm_J g114 rh0 rfl).trans ((fm_J g107 rh0 rfl).trans ((fm_J g100 rh0 rfl).trans ((fm_J g68 rh0 rfl).trans ((fm_J g36 rh0 rfl).trans ((fm_J g4 rh0 rfl).trans mW))))))] at p123
              have p123 : (x122.toInt = 1 ∧ pF15.toInt = 1 ∧ pW.toInt = 247842) ∨ x122.toInt = 0 := p123
              have m124 : oR (f119 h0) 2 = pR := ((fm_R g121 rh0 rfl).trans ((fm_R g114 rh0 rfl).trans ((fm_R g107 rh0 rfl).trans ((fm_R g100 rh0 rfl).trans ((fm_R g68 rh0 rfl).trans ((fm_R g36 rh0 rfl).trans ((fm_R g4 rh0 rfl).trans mR)))))))
              have m125 : oI (f119 h0) 15 = pF15 := ((fm_I g121 rh0 rfl).trans ((fm_I g114 rh0 rfl).trans ((fm_I g107 rh0 rfl).trans ((fm_I g100 rh0 rfl).trans ((fm_I g68 rh0 rfl).trans ((fm_I g36 rh0 rfl).trans ((fm_I g4 rh0 rfl).trans mF15)))))))
              have m126 : oJ (f119 h0) 16 = pW := ((fm_J g121 rh0 rfl).trans ((fm_J g114 rh0 rfl).trans ((fm_J g107 rh0 rfl).trans ((fm_J g100 rh0 rfl).trans ((fm_J g68 rh0 rfl).trans ((fm_J g36 rh0 rfl).trans ((fm_J g4 rh0 rfl).trans mW)))))))
              have hF := FM.tr hF g121 rfl
              refine q_if_eq (tgt := 127) hx hb dX12_headAt_119 (by decide) rfl (fun c127 => ?_) (fun c127 => ?_)
              · clear p123
                refine lv_iconst (v := (-1)) hx hb dX12_headAt_127 (by decide) ?_
                exact e_I E hW rfl ⟨⟨_, rfl, (by rw [mF15]; have hk : ((-1) : Int32).toInt = -1 := rfl; first | omega | trivial)⟩, hF⟩ dX12_headAt_128
              · have q128 : pF15.toInt = 1 ∧ pW.toInt = 247842 := by omega
                clear p123
                refine lv_bipush (v := 6) hx hb dX12_headAt_122 (by decide) ?_
                refine lv_goto (tgt := 128) hx hb dX12_headAt_124 (by decide) ?_
                exact e_I E hW rfl ⟨⟨_, rfl, (by rw [mF15]; have hk : (6 : Int32).toInt = 6 := rfl; first | omega | trivial)⟩, hF⟩ dX12_headAt_128
            · have q129 : pF15.toInt = 1 ∧ pW.toInt = 2094 := by omega
              clear p116
              refine lv_iconst (v := 5) hx hb dX12_headAt_108 (by decide) ?_
              refine lv_goto (tgt := 128) hx hb dX12_headAt_109 (by decide) ?_
              exact e_I E hW rfl ⟨⟨_, rfl, (by rw [mF15]; have hk : (5 : Int32).toInt = 5 := rfl; first | omega | trivial)⟩, hF⟩ dX12_headAt_128
          · have q130 : pF15.toInt = 1 ∧ pW.toInt = 365744 := by omega
            clear p109
            refine lv_iconst (v := 4) hx hb dX12_headAt_94 (by decide) ?_
            refine lv_goto (tgt := 128) hx hb dX12_headAt_95 (by decide) ?_
            exact e_I E hW rfl ⟨⟨_, rfl, (by rw [mF15]; have hk : (4 : Int32).toInt = 4 := rfl; first | omega | trivial)⟩, hF⟩ dX12_headAt_128
        · have q131 : pF15.toInt = 1 ∧ pW.toInt = 149559 := by omega
          clear p102
          refine lv_aload_n hx hb dX12_headAt_40 rfl (lv_at hl 0 rfl) ?_
          refine lv_ldc2 (v := 659105125) hx hb hown (hts _ tw_1796) dX12_headAt_41 ?_
          refine t_callV (As := [.long 659105125]) (rest := []) E hW (c_X12_isWord l G cI cJ cZ cD cR cT kp L f98 hW.2.2.2 _ h0 659105125 rh0 (by decide)) rh0 (by decide) rfl wk_X12_isWord tw_1797 rfl ⟨Nat.le_of_ble_eq_true rfl, Nat.le_of_ble_eq_true rfl⟩ ⟨rfl, rfl⟩ hl.1 rfl (Nat.le_of_ble_eq_true rfl) dX12_headAt_44 ⟨Nat.le_of_ble_eq_true rfl, Nat.le_of_ble_eq_true rfl⟩ (fun v132 f133 H locs q134 hW => ?_)
          obtain ⟨⟨x136, rfl, p137⟩, g135⟩ := q134
          simp only [((fm_I g100 rh0 rfl).trans ((fm_I g68 rh0 rfl).trans ((fm_I g36 rh0 rfl).trans ((fm_I g4 rh0 rfl).trans mF15)))), ((fm_J g100 rh0 rfl).trans ((fm_J g68 rh0 rfl).trans ((fm_J g36 rh0 rfl).trans ((fm_J g4 rh0 rfl).trans mW))))] at p137
          have p137 : (x136.toInt = 1 ∧ pF15.toInt = 1 ∧ pW.toInt = 659105125) ∨ x136.toInt = 0 := p137
          have hF := FM.tr hF g135 rfl
          refine q_if_eq (tgt := 54) hx hb dX12_headAt_47 (by decide) rfl (fun c138 => ?_) (fun c138 => ?_)
          · clear p137
            refine lv_aload_n hx hb dX12_headAt_54 rfl (lv_at hl 0 rfl) ?_
            refine lv_ldc2 (v := 643248) hx hb hown (hts _ tw_1801) dX12_headAt_55 ?_
            refine t_callV (As := [.long 643248]) (rest := []) E hW (c_X12_isWord l G cI cJ cZ cD cR cT kp L f133 hW.2.2.2 _ h0 643248 rh0 (by decide)) rh0 (by decide) rfl wk_X12_isWord tw_1797 rfl ⟨Nat.le_of_ble_eq_true rfl, Nat.le_of_ble_eq_true rfl⟩ ⟨rfl, rfl⟩ hl.1 rfl (Nat.le_of_ble_eq_true rfl) dX12_headAt_58 ⟨Nat.le_of_ble_eq_true rfl, Nat.le_of_ble_eq_true rfl⟩ (fun v139 f140 H locs q141 hW => ?_)
            obtain ⟨⟨x143, rfl, p144⟩, g142⟩ := q141
            simp only [((fm_I g135 rh0 rfl).trans ((fm_I g100 rh0 rfl).trans ((fm_I g68 rh0 rfl).trans ((fm_I g36 rh0 rfl).trans ((fm_I g4 rh0 rfl).trans mF15))))), ((fm_J g135 rh0 rfl).trans ((fm_J g100 rh0 rfl).trans ((fm_J g68 rh0 rfl).trans ((fm_J g36 rh0 rfl).trans ((fm_J g4 rh0 rfl).trans mW)))))] at p144
            have p144 : (x143.toInt = 1 ∧ pF15.toInt = 1 ∧ pW.toInt = 643248) ∨ x143.toInt = 0 := p144
            have hF := FM.tr hF g142 rfl
            refine q_if_eq (tgt := 68) hx hb dX12_headAt_61 (by decide) rfl (fun c145 => ?_) (fun c145 => ?_)
            · clear p144
              refine lv_aload_n hx hb dX12_headAt_68 rfl (lv_at hl 0 rfl) ?_
              refine lv_ldc2 (v := 197938) hx hb hown (hts _ tw_1802) dX12_headAt_69 ?_
              refine t_callV (As := [.long 197938]) (rest := []) E hW (c_X12_isWord l G cI cJ cZ cD cR cT kp L f140 hW.2.2.2 _ h0 197938 rh0 (by decide)) rh0 (by decide) rfl wk_X12_isWord tw_1797 rfl ⟨Nat.le_of_ble_eq_true rfl, Nat.le_of_ble_eq_true rfl⟩ ⟨rfl, rfl⟩ hl.1 rfl (Nat.le_of_ble_eq_true rfl) dX12_headAt_72 ⟨Nat.le_of_ble_eq_true rfl, Nat.le_of_ble_eq_true rfl⟩ (fun v146 f147 H locs q148 hW => ?_)
              obtain ⟨⟨x150, rfl, p151⟩, g149⟩ := q148
              simp only [((fm_I g142 rh0 rfl).trans ((fm_I g135 rh0 rfl).trans ((fm_I g100 rh0 rfl).trans ((fm_I g68 rh0 rfl).trans ((fm_I g36 rh0 rfl).trans ((fm_I g4 rh0 rfl).trans mF15)))))), ((fm_J g142 rh0 rfl).trans ((fm_J g135 rh0 rfl).trans ((fm_J g100 rh0 rfl).trans ((fm_J g68 rh0 rfl).trans ((fm_J g36 rh0 rfl).trans ((fm_J g4 rh0 rfl).trans mW))))))] at p151
              have p151 : (x150.toInt = 1 ∧ pF15.toInt = 1 ∧ pW.toInt = 197938) ∨ x150.toInt = 0 := p151
              have m152 : oR (f147 h0) 2 = pR := ((fm_R g149 rh0 rfl).trans ((fm_R g142 rh0 rfl).trans ((fm_R g135 rh0 rfl).trans ((fm_R g100 rh0 rfl).trans ((fm_R g68 rh0 rfl).trans ((fm_R g36 rh0 rfl).trans ((fm_R g4 rh0 rfl).trans mR)))))))
              have m153 : oI (f147 h0) 15 = pF15 := ((fm_I g149 rh0 rfl).trans ((fm_I g142 rh0 rfl).trans ((fm_I g135 rh0 rfl).trans ((fm_I g100 rh0 rfl).trans ((fm_I g68 rh0 rfl).trans ((fm_I g36 rh0 rfl).trans ((fm_I g4 rh0 rfl).trans mF15)))))))
              have m154 : oJ (f147 h0) 16 = pW := ((fm_J g149 rh0 rfl).trans ((fm_J g142 rh0 rfl).trans ((fm_J g135 rh0 rfl).trans ((fm_J g100 rh0 rfl).trans ((fm_J g68 rh0 rfl).trans ((fm_J g36 rh0 rfl).trans ((fm_J g4 rh0 rfl).trans mW)))))))
              have hF := FM.tr hF g149 rfl
              refine q_if_eq (tgt := 82) hx hb dX12_headAt_75 (by decide) rfl (fun c155 => ?_) (fun c155 => ?_)
              · clear p151
                refine lv_iconst (v := 3) hx hb dX12_headAt_82 (by decide) ?_
                exact e_I E hW rfl ⟨⟨_, rfl, (by rw [mF15]; have hk : (3 : Int32).toInt = 3 := rfl; first | omega | trivial)⟩, hF⟩ dX12_headAt_83
              · have q156 : pF15.toInt = 1 ∧ pW.toInt = 197938 := by omega
                clear p151
                refine lv_iconst (v := 2) hx hb dX12_headAt_78 (by decide) ?_
                refine lv_goto (tgt := 83) hx hb dX12_headAt_79 (by decide) ?_
                exact e_I E hW rfl ⟨⟨_, rfl, (by rw [mF15]; have hk : (2 : Int32).toInt = 2 := rfl; first | omega | trivial)⟩, hF⟩ dX12_headAt_83
            · have q157 : pF15.toInt = 1 ∧ pW.toInt = 643248 := by omega
              clear p144
              refine lv_iconst (v := 1) hx hb dX12_headAt_64 (by decide) ?_
              refine lv_goto (tgt := 83) hx hb dX12_headAt_65 (by decide) ?_
              exact e_I E hW rfl ⟨⟨_, rfl, (by rw [mF15]; have hk : (1 : Int32).toInt = 1 := rfl; first | omega | trivial)⟩, hF⟩ dX12_headAt_83
          · have q158 : pF15.toInt = 1 ∧ pW.toInt = 659105125 := by omega
            clear p137
            refine lv_iconst (v := 0) hx hb dX12_headAt_50 (by decide) ?_
            refine lv_goto (tgt := 83) hx hb dX12_headAt_51 (by decide) ?_
            exact e_I E hW rfl ⟨⟨_, rfl, (by rw [mF15]; have hk : (0 : Int32).toInt = 0 := rfl; first | omega | trivial)⟩, hF⟩ dX12_headAt_83
def ms_X12_leaf : List (Nat × Nat) := [(12, 13), (12, 14), (12, 15), (12, 16), (12, 17), (12, 18), (12, 21), (12, 24), (842, 0), (843, 0)]
def po_X12_leaf (kp : Nat → Nat) (L : List Nat) (f0 : Nat → va_E) (gO : Nat → Int32) (gA : Nat → Int32) (ga : Int) (gt : Int) (gu : Int) (h0 : Nat) (u1 : Int32) (u2 : Int32) (u3 : Int32) : Option Value → (Nat → va_E) → Prop := fun v f => v = none ∧ FM kp L ms_X12_leaf f0 f ∧ ((oI (f h0) 21).toInt + (oI (f h0) 27).toInt ≤ (oI (f h0) 13).toInt ∧ (oI (f h0) 13).toInt ≤ (oI (f h0) 14).toInt ∧ (oI (f h0) 14).toInt ≤ (oI (f0 h0) 12).toInt ∧ ((oI (f h0) 15).toInt = 0 ∨ (oI (f h0) 13).toInt < (oI (f h0) 14).toInt) ∧ (¬ (oI (f h0) 15).toInt = 1 ∨ (oJ (f h0) 16).toInt ≤ 26 ∨ (oI (f h0) 13).toInt + 2 ≤ (oI (f h0) 14).toInt) ∧ (oI (f0 h0) 21).toInt ≤ (oI (f h0) 21).toInt ∧ (oI (f0 h0) 13).toInt ≤ (oI (f h0) 13).toInt ∧ (¬ (oI (f0 h0) 18).toInt = 1 ∨ (oI (f h0) 18).toInt = 1) ∧ ((oI (f h0) 18).toInt = 1 ∨ (oI (f0 h0) 13).toInt < (oI (f h0) 13).toInt)) ∧ (GI f h0 gO gA ga (gu))
set_option maxHeartbeats 4000000 in
set_option maxRecDepth 100000 in
theorem c_X12_leaf (l : Launch) (G : va_G) (cI cJ cZ cD cR cT : ClassId) (kp : Nat → Nat) (L : List Nat) (f0 : Nat → va_E) (hTH : TH cI cJ cZ cD cR cT kp L f0) (sz : Nat) (gO : Nat → Int32) (gA : Nat → Int32) (ga : Int) (gt : Int) (gu : Int) (h0 : Nat) (u1 : Int32) (u2 : Int32) (u3 : Int32) (rh0 : RK kp L h0 12) (pu1 : (0 : Int) ≤ u1.toInt ∧ u1.toInt ≤ 1) (pu2 : (-1 : Int) ≤ u2.toInt ∧ u2.toInt ≤ 15) (hq : (oI (f0 h0) 21).toInt + (oI (f0 h0) 27).toInt ≤ (oI (f0 h0) 13).toInt ∧ (oI (f0 h0) 13).toInt ≤ (oI (f0 h0) 14).toInt ∧ (oI (f0 h0) 14).toInt ≤ (oI (f0 h0) 12).toInt ∧ ((oI (f0 h0) 15).toInt = 0 ∨ (oI (f0 h0) 13).toInt < (oI (f0 h0) 14).toInt) ∧ (¬ (oI (f0 h0) 15).toInt = 1 ∨ (oJ (f0 h0) 16).toInt ≤ 26 ∨ (oI (f0 h0) 13).toInt + 2 ≤ (oI (f0 h0) 14).toInt) ∧ (¬ u1.toInt = 1 ∨ ¬ (oI (f0 h0) 15).toInt = 0) ∧ (¬ u1.toInt = 1 ∨ (0 ≤ u2.toInt ∧ u2.toInt ≤ 15)) ∧ (((gt = 0 ∨ gt = 1) ∧ gu = 3) ∨ (gt = 0 ∧ gu = 2))) (hG : GI f0 h0 gO gA ga (gt)) : Met l yX12_leaf (Cond.code yX12_leaf cX12_leaf 4 none :: wTab) ({ frames := 4, cells := 0, slots := 0, locals := 101 }) (va_Pc [.ref h0, .int u1, .int u2, .int u3] (PreW G (tys6 cI cJ cZ cD cR cT) (va_pl L f0) sz)) (QT (po_X12_leaf kp L f0 gO gA ga gt gu h0 u1 u2 u3) G cI cJ cZ cD cR cT (va_A (va_pl L f0) sz) kp L) 0 0 (va_A (va_pl L f0) sz) := by
  refine metT (by decide) (Nat.le_of_ble_eq_true rfl) hTH ?_
  intro p e s m below meth c A ls E hW hl
  obtain ⟨hx, hb, -, hml, hown, hts, -, -, -⟩ := id E
  have hF : FM kp L ms_X12_leaf f0 f0 := FM.rf
  have hl : lv_has ls 4 [(0, .ref h0), (1, .int u1), (2, .int u2), (3, .int u3)] := hl
  obtain ⟨pF12, mF12⟩ : ∃ x : Int32, oI (f0 h0) 12 = x := ⟨_, rfl⟩
  have bF12 : (0 : Int) ≤ pF12.toInt ∧ pF12.toInt ≤ 400 := by rw [← mF12]; exact th_iv hW rh0 (by decide) (by decide) rfl
  obtain ⟨pF13, mF13⟩ : ∃ x : Int32, oI (f0 h0) 13 = x := ⟨_, rfl⟩
  have bF13 : (0 : Int) ≤ pF13.toInt ∧ pF13.toInt ≤ 400 := by rw [← mF13]; exact th_iv hW rh0 (by decide) (by decide) rfl
  obtain ⟨pF14, mF14⟩ : ∃ x : Int32, oI (f0 h0) 14 = x := ⟨_, rfl⟩
  have bF14 : (0 : Int) ≤ pF14.toInt ∧ pF14.toInt ≤ 400 := by rw [← mF14]; exact th_iv hW rh0 (by decide) (by decide) rfl
  obtain ⟨pF15, mF15⟩ : ∃ x : Int32, oI (f0 h0) 15 = x := ⟨_, rfl⟩
  have bF15 : (0 : Int) ≤ pF15.toInt ∧ pF15.toInt ≤ 3 := by rw [← mF15]; exact th_iv hW rh0 (by decide) (by decide) rfl
  obtain ⟨pF18, mF18⟩ : ∃ x : Int32, oI (f0 h0) 18 = x := ⟨_, rfl⟩
  have bF18 : (0 : Int) ≤ pF18.toInt ∧ pF18.toInt ≤ 1 := by rw [← mF18]; exact th_iv hW rh0 (by decide) (by decide) rfl
  obtain ⟨pF21, mF21⟩ : ∃ x : Int32, oI (f0 h0) 21 = x := ⟨_, rfl⟩
  have bF21 : (0 : Int) ≤ pF21.toInt ∧ pF21.toInt ≤ 400 := by rw [← mF21]; exact th_iv hW rh0 (by decide) (by decide) rfl
  obtain ⟨pF24, mF24⟩ : ∃ x : Int32, oI (f0 h0) 24 = x := ⟨_, rfl⟩
  have bF24 : (0 : Int) ≤ pF24.toInt ∧ pF24.toInt ≤ 50 := by rw [← mF24]; exact th_iv hW rh0 (by decide) (by decide) rfl
  obtain ⟨pF27, mF27⟩ : ∃ x : Int32, oI (f0 h0) 27 = x := ⟨_, rfl⟩
  have bF27 : (0 : Int) ≤ pF27.toInt ∧ pF27.toInt ≤ 400 := by rw [← mF27]; exact th_iv hW rh0 (by decide) (by decide) rfl
  obtain ⟨pW, mW⟩ : ∃ x : Int64, oJ (f0 h0) 16 = x := ⟨_, rfl⟩
  simp only [mF12, mF13, mF14, mF15, mF18, mF21, mF24, mF27, mW] at hq
  obtain ⟨pR, mR⟩ : ∃ x : Nat, oR (f0 h0) 2 = x := ⟨_, rfl⟩
  have rR : RK kp L pR 822 := by rw [← mR]; exact th_ref hTH rh0 (by decide) (by decide) rfl
  refine lv_aload_n hx hb dX12_leaf_0 rfl (lv_at hl 0 rfl) ?_
  refine lv_iload_n hx hb dX12_leaf_1 rfl (lv_at hl 1 rfl) ?_
  refine q_if_eq (tgt := 18) hx hb dX12_leaf_2 (by decide) rfl (fun c1 => ?_) (fun c1 => ?_)
  · refine lv_iconst (v := 0) hx hb dX12_leaf_18 (by decide) ?_
    have hw6 := hW.2.2.2
    refine t_callV (As := [.int 0]) (rest := []) E hW (c_X12_must l G cI cJ cZ cD cR cT kp L f0 hW.2.2.2 _ h0 0 rh0 (by decide) (by have hkq2 : (0 : Int32).toInt = 0 := rfl; simp only [mF12, mF13, mF14, mF15, mW, and_true, true_and, true_or, or_true, false_or, or_false] <;> omega)) rh0 (by decide) rfl wk_X12_must tw_1807 rfl ⟨Nat.le_of_ble_eq_true rfl, Nat.le_of_ble_eq_true rfl⟩ ⟨rfl, rfl⟩ hl.1 rfl (Nat.le_of_ble_eq_true rfl) dX12_leaf_19 ⟨Nat.le_of_ble_eq_true rfl, Nat.le_of_ble_eq_true rfl⟩ (fun v3 f4 H locs q5 hW => ?_)
    obtain ⟨rfl, g7, h8⟩ := q5
    have hF := FM.tr hF g7 rfl
    have hk9 : (0 : Int32).toInt = 0 := rfl
    obtain ⟨y10, m11⟩ : ∃ x : Int32, oI (f4 h0) 13 = x := ⟨_, rfl⟩
    have b12 : (0 : Int) ≤ y10.toInt ∧ y10.toInt ≤ 400 := by rw [← m11]; exact th_iv hW rh0 (by decide) (by decide) rfl
    obtain ⟨y13, m14⟩ : ∃ x : Int32, oI (f4 h0) 14 = x := ⟨_, rfl⟩
    have b15 : (0 : Int) ≤ y13.toInt ∧ y13.toInt ≤ 400 := by rw [← m14]; exact th_iv hW rh0 (by decide) (by decide) rfl
    obtain ⟨y16, m17⟩ : ∃ x : Int32, oI (f4 h0) 15 = x := ⟨_, rfl⟩
    have b18 : (0 : Int) ≤ y16.toInt ∧ y16.toInt ≤ 3 := by rw [← m17]; exact th_iv hW rh0 (by decide) (by decide) rfl
    obtain ⟨y19, m20⟩ : ∃ x : Int32, oI (f4 h0) 18 = x := ⟨_, rfl⟩
    have b21 : (0 : Int) ≤ y19.toInt ∧ y19.toInt ≤ 1 := by rw [← m20]; exact th_iv hW rh0 (by decide) (by decide) rfl
    obtain ⟨y22, m23⟩ : ∃ x : Int64, oJ (f4 h0) 16 = x := ⟨_, rfl⟩
    simp only [((fm_I g7 rh0 rfl).trans mF12), mF12, m11, mF13, m14, mF14, m17, mF15, m20, mF18, m23, mW] at h8
    have z24 : GI f4 h0 gO gA ga (gt) := gi_keep hG hw6 g7 rh0 rfl rfl (fun q => by rw [mF18] at q; rw [m20]; omega)
    refine lv_aload_n hx hb dX12_leaf_22 rfl (lv_at hl 0 rfl) ?_
    refine fg_RX12_193 E hW rh0 dX12_leaf_23 (fun y25 m26 b27 => ?_)
    obtain rfl : y19 = y25 := (m20).symm.trans m26
    refine q_if_ne (tgt := 45) hx hb dX12_leaf_26 (by decide) rfl (fun c28 => ?_) (fun c28 => ?_)
    · exact e_V E hW rfl ⟨rfl, hF, (by simp only [((fm_I g7 rh0 rfl).trans mF12), mF12, m11, mF13, m14, mF14, m17, mF15, m26, mF18, ((fm_I g7 rh0 rfl).trans mF21), mF21, ((fm_I g7 rh0 rfl).trans mF27), mF27, m23, mW, and_true, true_and, true_or, or_true, false_or, or_false] <;> omega), (Or.inl (by rw [m26]; omega))⟩ dX12_leaf_45
    · refine lv_aload_n hx hb dX12_leaf_29 rfl (lv_at hl 0 rfl) ?_
      refine lv_iload_n hx hb dX12_leaf_30 rfl (lv_at hl 2 rfl) ?_
      refine lv_iload_n hx hb dX12_leaf_31 rfl (lv_at hl 3 rfl) ?_
      have hw32 := hW.2.2.2
      refine t_callV (As := [.int u2, .int u3]) (rest := []) E hW (c_X12_emit l G cI cJ cZ cD cR cT kp L f4 hW.2.2.2 _ h0 u2 u3 rh0 (by simp only [((fm_I g7 rh0 rfl).trans mF21), and_true, true_and, true_or, or_true, false_or, or_false] <;> omega)) rh0 (by decide) rfl wk_X12_emit tw_1852 rfl ⟨Nat.le_of_ble_eq_true rfl, Nat.le_of_ble_eq_true rfl⟩ ⟨rfl, rfl⟩ hl.1 rfl (Nat.le_of_ble_eq_true rfl) dX12_leaf_32 ⟨Nat.le_of_ble_eq_true rfl, Nat.le_of_ble_eq_true rfl⟩ (fun v29 f30 H locs q31 hW => ?_)
      obtain ⟨rfl, g33, h34, h35⟩ := q31
      have hF := FM.tr hF g33 rfl
      obtain ⟨y36, m37⟩ : ∃ x : Int32, oI (f30 h0) 21 = x := ⟨_, rfl⟩
      have b38 : (0 : Int) ≤ y36.toInt ∧ y36.toInt ≤ 400 := by rw [← m37]; exact th_iv hW rh0 (by decide) (by decide) rfl
      simp only [m37, ((fm_I g7 rh0 rfl).trans mF21)] at h34
      have z39 := gi_leaf (t := gt) z24 hw32 g33 rh0 rfl rfl (by omega) (by omega) h35
      have z40 : GI f30 h0 gO gA ga gu := by
        rcases (by omega : gu = 3 ∨ (gu = 2 ∧ gt = 0)) with q | ⟨q1, q2⟩
        · rw [q]; exact z39.1
        · rw [q1]; exact z39.2 q2
      refine lv_aload_n hx hb dX12_leaf_35 rfl (lv_at hl 0 rfl) ?_
      refine lv_dup hx hb dX12_leaf_36 rfl ?_
      refine fg_RX12_290 E hW rh0 dX12_leaf_37 (fun y41 m42 b43 => ?_)
      obtain rfl : pF24 = y41 := (((fm_I g33 rh0 rfl).trans ((fm_I g7 rh0 rfl).trans mF24))).symm.trans m42
      refine lv_iconst (v := 1) hx hb dX12_leaf_40 (by decide) ?_
      refine q_iadd (Y := 1) hx hb dX12_leaf_41 rfl rfl (by omega) (fun x44 h45 => ?_)
      have hw50 := hW.2.2.2
      refine fp_RX12_290 E hW rh0 (by omega) dX12_leaf_42 (fun f46 H locs e47 n48 g49 hW => ?_)
      have z51 : GI f46 h0 gO gA ga (gu) := gi_keep z40 hw50 g49 rh0 rfl rfl (fun q => by rw [fm_I g49 rh0 rfl]; exact q)
      have hF := FM.tr hF g49 rfl
      exact e_V E hW rfl ⟨rfl, hF, (by simp only [((fm_I g49 rh0 rfl).trans ((fm_I g33 rh0 rfl).trans ((fm_I g7 rh0 rfl).trans mF12))), mF12, ((fm_I g49 rh0 rfl).trans ((fm_I g33 rh0 rfl).trans m11)), mF13, ((fm_I g49 rh0 rfl).trans ((fm_I g33 rh0 rfl).trans m14)), mF14, ((fm_I g49 rh0 rfl).trans ((fm_I g33 rh0 rfl).trans m17)), mF15, ((fm_I g49 rh0 rfl).trans ((fm_I g33 rh0 rfl).trans m26)), mF18, ((fm_I g49 rh0 rfl).trans m37), mF21, ((fm_I g49 rh0 rfl).trans ((fm_I g33 rh0 rfl).trans ((fm_I g7 rh0 rfl).trans mF27))), mF27, ((fm_J g49 rh0 rfl).trans ((fm_J g33 rh0 rfl).trans m23)), mW, and_true, true_and, true_or, or_true, false_or, or_false] <;> omega), z51⟩ dX12_leaf_45
  · refine lv_aload_n hx hb dX12_leaf_5 rfl (lv_at hl 0 rfl) ?_
    refine fg_RX12_290 E hW rh0 dX12_leaf_6 (fun y52 m53 b54 => ?_)
    obtain rfl : pF24 = y52 := (mF24).symm.trans m53
    refine lv_bipush (v := 50) hx hb dX12_leaf_9 (by decide) ?_
    refine q_icmp_ge (Y := 50) (tgt := 18) hx hb dX12_leaf_11 (by decide) rfl rfl (fun c55 => ?_) (fun c55 => ?_)
    · refine lv_iconst (v := 0) hx hb dX12_leaf_18 (by decide) ?_
      have hw60 := hW.2.2.2
      refine t_callV (As := [.int 0]) (rest := []) E hW (c_X12_must l G cI cJ cZ cD cR cT kp L f0 hW.2.2.2 _ h0 0 rh0 (by decide) (by have hkq56 : (0 : Int32).toInt = 0 := rfl; simp only [mF12, mF13, mF14, mF15, mW, and_true, true_and, true_or, or_true, false_or, or_false] <;> omega)) rh0 (by decide) rfl wk_X12_must tw_1807 rfl ⟨Nat.le_of_ble_eq_true rfl, Nat.le_of_ble_eq_true rfl⟩ ⟨rfl, rfl⟩ hl.1 rfl (Nat.le_of_ble_eq_true rfl) dX12_leaf_19 ⟨Nat.le_of_ble_eq_true rfl, Nat.le_of_ble_eq_true rfl⟩ (fun v57 f58 H locs q59 hW => ?_)
      obtain ⟨rfl, g61, h62⟩ := q59
      have hF := FM.tr hF g61 rfl
      have hk63 : (0 : Int32).toInt = 0 := rfl
      obtain ⟨y64, m65⟩ : ∃ x : Int32, oI (f58 h0) 13 = x := ⟨_, rfl⟩
      have b66 : (0 : Int) ≤ y64.toInt ∧ y64.toInt ≤ 400 := by rw [← m65]; exact th_iv hW rh0 (by decide) (by decide) rfl
      obtain ⟨y67, m68⟩ : ∃ x : Int32, oI (f58 h0) 14 = x := ⟨_, rfl⟩
      have b69 : (0 : Int) ≤ y67.toInt ∧ y67.toInt ≤ 400 := by rw [← m68]; exact th_iv hW rh0 (by decide) (by decide) rfl
      obtain ⟨y70, m71⟩ : ∃ x : Int32, oI (f58 h0) 15 = x := ⟨_, rfl⟩
      have b72 : (0 : Int) ≤ y70.toInt ∧ y70.toInt ≤ 3 := by rw [← m71]; exact th_iv hW rh0 (by decide) (by decide) rfl
      obtain ⟨y73, m74⟩ : ∃ x : Int32, oI (f58 h0) 18 = x := ⟨_, rfl⟩
      have b75 : (0 : Int) ≤ y73.toInt ∧ y73.toInt ≤ 1 := by rw [← m74]; exact th_iv hW rh0 (by decide) (by decide) rfl
      obtain ⟨y76, m77⟩ : ∃ x : Int64, oJ (f58 h0) 16 = x := ⟨_, rfl⟩
      simp only [((fm_I g61 rh0 rfl).trans mF12), mF12, m65, mF13, m68, mF14, m71, mF15, m74, mF18, m77, mW] at h62
      have z78 : GI f58 h0 gO gA ga (gt) := gi_keep hG hw60 g61 rh0 rfl rfl (fun q => by rw [mF18] at q; rw [m74]; omega)
      refine lv_aload_n hx hb dX12_leaf_22 rfl (lv_at hl 0 rfl) ?_
      refine fg_RX12_193 E hW rh0 dX12_leaf_23 (fun y79 m80 b81 => ?_)
      obtain rfl : y73 = y79 := (m74).symm.trans m80
      refine q_if_ne (tgt := 45) hx hb dX12_leaf_26 (by decide) rfl (fun c82 => ?_) (fun c82 => ?_)
      · exact e_V E hW rfl ⟨rfl, hF, (by simp only [((fm_I g61 rh0 rfl).trans mF12), mF12, m65, mF13, m68, mF14, m71, mF15, m80, mF18, ((fm_I g61 rh0 rfl).trans mF21), mF21, ((fm_I g61 rh0 rfl).trans mF27), mF27, m77, mW, and_true, true_and, true_or, or_true, false_or, or_false] <;> omega), (Or.inl (by rw [m80]; omega))⟩ dX12_leaf_45
      · refine lv_aload_n hx hb dX12_leaf_29 rfl (lv_at hl 0 rfl) ?_
        refine lv_iload_n hx hb dX12_leaf_30 rfl (lv_at hl 2 rfl) ?_
        refine lv_iload_n hx hb dX12_leaf_31 rfl (lv_at hl 3 rfl) ?_
        have hw86 := hW.2.2.2
        refine t_callV (As := [.int u2, .int u3]) (rest := []) E hW (c_X12_emit l G cI cJ cZ cD cR cT kp L f58 hW.2.2.2 _ h0 u2 u3 rh0 (by simp only [((fm_I g61 rh0 rfl).trans mF21), and_true, true_and, true_or, or_true, false_or, or_false] <;> omega)) rh0 (by decide) rfl wk_X12_emit tw_1852 rfl ⟨Nat.le_of_ble_eq_true rfl, Nat.le_of_ble_eq_true rfl⟩ ⟨rfl, rfl⟩ hl.1 rfl (Nat.le_of_ble_eq_true rfl) dX12_leaf_32 ⟨Nat.le_of_ble_eq_true rfl, Nat.le_of_ble_eq_true rfl⟩ (fun v83 f84 H locs q85 hW => ?_)
        obtain ⟨rfl, g87, h88, h89⟩ := q85
        have hF := FM.tr hF g87 rfl
        obtain ⟨y90, m91⟩ : ∃ x : Int32, oI (f84 h0) 21 = x := ⟨_, rfl⟩
        have b92 : (0 : Int) ≤ y90.toInt ∧ y90.toInt ≤ 400 := by rw [← m91]; exact th_iv hW rh0 (by decide) (by decide) rfl
        simp only [m91, ((fm_I g61 rh0 rfl).trans mF21)] at h88
        have z93 := gi_leaf (t := gt) z78 hw86 g87 rh0 rfl rfl (by omega) (by omega) h89
        have z94 : GI f84 h0 gO gA ga gu := by
          rcases (by omega : gu = 3 ∨ (gu = 2 ∧ gt = 0)) with q | ⟨q1, q2⟩
          · rw [q]; exact z93.1
          · rw [q1]; exact z93.2 q2
        refine lv_aload_n hx hb dX12_leaf_35 rfl (lv_at hl 0 rfl) ?_
        refine lv_dup hx hb dX12_leaf_36 rfl ?_
        refine fg_RX12_290 E hW rh0 dX12_leaf_37 (fun y95 m96 b97 => ?_)
        obtain rfl : pF24 = y95 := (((fm_I g87 rh0 rfl).trans ((fm_I g61 rh0 rfl).trans m53))).symm.trans m96
        refine lv_iconst (v := 1) hx hb dX12_leaf_40 (by decide) ?_
        refine q_iadd (Y := 1) hx hb dX12_leaf_41 rfl rfl (by omega) (fun x98 h99 => ?_)
        have hw104 := hW.2.2.2
        refine fp_RX12_290 E hW rh0 (by omega) dX12_leaf_42 (fun f100 H locs e101 n102 g103 hW => ?_)
        have z105 : GI f100 h0 gO gA ga (gu) := gi_keep z94 hw104 g103 rh0 rfl rfl (fun q => by rw [fm_I g103 rh0 rfl]; exact q)
        have hF := FM.tr hF g103 rfl
        exact e_V E hW rfl ⟨rfl, hF, (by simp only [((fm_I g103 rh0 rfl).trans ((fm_I g87 rh0 rfl).trans ((fm_I g61 rh0 rfl).trans mF12))), mF12, ((fm_I g103 rh0 rfl).trans ((fm_I g87 rh0 rfl).trans m65)), mF13, ((fm_I g103 rh0 rfl).trans ((fm_I g87 rh0 rfl).trans m68)), mF14, ((fm_I g103 rh0 rfl).trans ((fm_I g87 rh0 rfl).trans m71)), mF15, ((fm_I g103 rh0 rfl).trans ((fm_I g87 rh0 rfl).trans m80)), mF18, ((fm_I g103 rh0 rfl).trans m91), mF21, ((fm_I g103 rh0 rfl).trans ((fm_I g87 rh0 rfl).trans ((fm_I g61 rh0 rfl).trans mF27))), mF27, ((fm_J g103 rh0 rfl).trans ((fm_J g87 rh0 rfl).trans m77)), mW, and_true, true_and, true_or, or_true, false_or, or_false] <;> omega), z105⟩ dX12_leaf_45
    · refine lv_iconst (v := 1) hx hb dX12_leaf_14 (by decide) ?_
      refine lv_goto (tgt := 19) hx hb dX12_leaf_15 (by decide) ?_
      have hw110 := hW.2.2.2
      refine t_callV (As := [.int 1]) (rest := []) E hW (c_X12_must l G cI cJ cZ cD cR cT kp L f0 hW.2.2.2 _ h0 1 rh0 (by decide) (by have hkq106 : (1 : Int32).toInt = 1 := rfl; simp only [mF12, mF13, mF14, mF15, mW, and_true, true_and, true_or, or_true, false_or, or_false] <;> omega)) rh0 (by decide) rfl wk_X12_must tw_1807 rfl ⟨Nat.le_of_ble_eq_true rfl, Nat.le_of_ble_eq_true rfl⟩ ⟨rfl, rfl⟩ hl.1 rfl (Nat.le_of_ble_eq_true rfl) dX12_leaf_19 ⟨Nat.le_of_ble_eq_true rfl, Nat.le_of_ble_eq_true rfl⟩ (fun v107 f108 H locs q109 hW => ?_)
      obtain ⟨rfl, g111, h112⟩ := q109
      have hF := FM.tr hF g111 rfl
      have hk113 : (1 : Int32).toInt = 1 := rfl
      obtain ⟨y114, m115⟩ : ∃ x : Int32, oI (f108 h0) 13 = x := ⟨_, rfl⟩
      have b116 : (0 : Int) ≤ y114.toInt ∧ y114.toInt ≤ 400 := by rw [← m115]; exact th_iv hW rh0 (by decide) (by decide) rfl
      obtain ⟨y117, m118⟩ : ∃ x : Int32, oI (f108 h0) 14 = x := ⟨_, rfl⟩
      have b119 : (0 : Int) ≤ y117.toInt ∧ y117.toInt ≤ 400 := by rw [← m118]; exact th_iv hW rh0 (by decide) (by decide) rfl
      obtain ⟨y120, m121⟩ : ∃ x : Int32, oI (f108 h0) 15 = x := ⟨_, rfl⟩
      have b122 : (0 : Int) ≤ y120.toInt ∧ y120.toInt ≤ 3 := by rw [← m121]; exact th_iv hW rh0 (by decide) (by decide) rfl
      obtain ⟨y123, m124⟩ : ∃ x : Int32, oI (f108 h0) 18 = x := ⟨_, rfl⟩
      have b125 : (0 : Int) ≤ y123.toInt ∧ y123.toInt ≤ 1 := by rw [← m124]; exact th_iv hW rh0 (by decide) (by decide) rfl
      obtain ⟨y126, m127⟩ : ∃ x : Int64, oJ (f108 h0) 16 = x := ⟨_, rfl⟩
      simp only [((fm_I g111 rh0 rfl).trans mF12), mF12, m115, mF13, m118, mF14, m121, mF15, m124, mF18, m127, mW] at h112
      have z128 : GI f108 h0 gO gA ga (gt) := gi_keep hG hw110 g111 rh0 rfl rfl (fun q => by rw [mF18] at q; rw [m124]; omega)
      refine lv_aload_n hx hb dX12_leaf_22 rfl (lv_at hl 0 rfl) ?_
      refine fg_RX12_193 E hW rh0 dX12_leaf_23 (fun y129 m130 b131 => ?_)
      obtain rfl : y123 = y129 := (m124).symm.trans m130
      refine q_if_ne (tgt := 45) hx hb dX12_leaf_26 (by decide) rfl (fun c132 => ?_) (fun c132 => ?_)
      · exact e_V E hW rfl ⟨rfl, hF, (by simp only [((fm_I g111 rh0 rfl).trans mF12), mF12, m115, mF13, m118, mF14, m121, mF15, m130, mF18, ((fm_I g111 rh0 rfl).trans mF21), mF21, ((fm_I g111 rh0 rfl).trans mF27), mF27, m127, mW, and_true, true_and, true_or, or_true, false_or, or_false] <;> omega), (Or.inl (by rw [m130]; omega))⟩ dX12_leaf_45
      · refine lv_aload_n hx hb dX12_leaf_29 rfl (lv_at hl 0 rfl) ?_
        refine lv_iload_n hx hb dX12_leaf_30 rfl (lv_at hl 2 rfl) ?_
        refine lv_iload_n hx hb dX12_leaf_31 rfl (lv_at hl 3 rfl) ?_
        have hw136 := hW.2.2.2
        refine t_callV (As := [.int u2, .int u3]) (rest := []) E hW (c_X12_emit l G cI cJ cZ cD cR cT kp L f108 hW.2.2.2 _ h0 u2 u3 rh0 (by simp only [((fm_I g111 rh0 rfl).trans mF21), and_true, true_and, true_or, or_true, false_or, or_false] <;> omega)) rh0 (by decide) rfl wk_X12_emit tw_1852 rfl ⟨Nat.le_of_ble_eq_true rfl, Nat.le_of_ble_eq_true rfl⟩ ⟨rfl, rfl⟩ hl.1 rfl (Nat.le_of_ble_eq_true rfl) dX12_leaf_32 ⟨Nat.le_of_ble_eq_true rfl, Nat.le_of_ble_eq_true rfl⟩ (fun v133 f134 H locs q135 hW => ?_)
        obtain ⟨rfl, g137, h138, h139⟩ := q135
        have hF := FM.tr hF g137 rfl
        obtain ⟨y140, m141⟩ : ∃ x : Int32, oI (f134 h0) 21 = x := ⟨_, rfl⟩
        have b142 : (0 : Int) ≤ y140.toInt ∧ y140.toInt ≤ 400 := by rw [← m141]; exact th_iv hW rh0 (by decide) (by decide) rfl
        simp only [m141, ((fm_I g111 rh0 rfl).trans mF21)] at h138
        have z143 := gi_leaf (t := gt) z128 hw136 g137 rh0 rfl rfl (by omega) (by omega) h139
        have z144 : GI f134 h0 gO gA ga gu := by
          rcases (by omega : gu = 3 ∨ (gu = 2 ∧ gt = 0)) with q | ⟨q1, q2⟩
          · rw [q]; exact z143.1
          · rw [q1]; exact z143.2 q2
        refine lv_aload_n hx hb dX12_leaf_35 rfl (lv_at hl 0 rfl) ?_
        refine lv_dup hx hb dX12_leaf_36 rfl ?_
        refine fg_RX12_290 E hW rh0 dX12_leaf_37 (fun y145 m146 b147 => ?_)
        obtain rfl : pF24 = y145 := (((fm_I g137 rh0 rfl).trans ((fm_I g111 rh0 rfl).trans m53))).symm.trans m146
        refine lv_iconst (v := 1) hx hb dX12_leaf_40 (by decide) ?_
        refine q_iadd (Y := 1) hx hb dX12_leaf_41 rfl rfl (by omega) (fun x148 h149 => ?_)
        have hw154 := hW.2.2.2
        refine fp_RX12_290 E hW rh0 (by omega) dX12_leaf_42 (fun f150 H locs e151 n152 g153 hW => ?_)
        have z155 : GI f150 h0 gO gA ga (gu) := gi_keep z144 hw154 g153 rh0 rfl rfl (fun q => by rw [fm_I g153 rh0 rfl]; exact q)
        have hF := FM.tr hF g153 rfl
        exact e_V E hW rfl ⟨rfl, hF, (by simp only [((fm_I g153 rh0 rfl).trans ((fm_I g137 rh0 rfl).trans ((fm_I g111 rh0 rfl).trans mF12))), mF12, ((fm_I g153 rh0 rfl).trans ((fm_I g137 rh0 rfl).trans m115)), mF13, ((fm_I g153 rh0 rfl).trans ((fm_I g137 rh0 rfl).trans m118)), mF14, ((fm_I g153 rh0 rfl).trans ((fm_I g137 rh0 rfl).trans m121)), mF15, ((fm_I g153 rh0 rfl).trans ((fm_I g137 rh0 rfl).trans m130)), mF18, ((fm_I g153 rh0 rfl).trans m141), mF21, ((fm_I g153 rh0 rfl).trans ((fm_I g137 rh0 rfl).trans ((fm_I g111 rh0 rfl).trans mF27))), mF27, ((fm_J g153 rh0 rfl).trans ((fm_J g137 rh0 rfl).trans m127)), mW, and_true, true_and, true_or, or_true, false_or, or_false] <;> omega), z155⟩ dX12_leaf_45
def ms_X12_open : List (Nat × Nat) := [(12, 13), (12, 14), (12, 15), (12, 16), (12, 17), (12, 18), (12, 27), (12, 28), (845, 0), (846, 0)]
def po_X12_open (kp : Nat → Nat) (L : List Nat) (f0 : Nat → va_E) (gO : Nat → Int32) (gA : Nat → Int32) (ga : Int) (gt : Int) (gu : Int) (h0 : Nat) (u1 : Int32) : Option Value → (Nat → va_E) → Prop := fun v f => v = none ∧ FM kp L ms_X12_open f0 f ∧ ((oI (f h0) 21).toInt + (oI (f h0) 27).toInt ≤ (oI (f h0) 13).toInt ∧ (oI (f h0) 13).toInt ≤ (oI (f h0) 14).toInt ∧ (oI (f h0) 14).toInt ≤ (oI (f0 h0) 12).toInt ∧ ((oI (f h0) 15).toInt = 0 ∨ (oI (f h0) 13).toInt < (oI (f h0) 14).toInt) ∧ (¬ (oI (f h0) 15).toInt = 1 ∨ (oJ (f h0) 16).toInt ≤ 26 ∨ (oI (f h0) 13).toInt + 2 ≤ (oI (f h0) 14).toInt) ∧ (oI (f0 h0) 21).toInt ≤ (oI (f h0) 21).toInt ∧ (oI (f0 h0) 13).toInt ≤ (oI (f h0) 13).toInt ∧ (¬ (oI (f0 h0) 18).toInt = 1 ∨ (oI (f h0) 18).toInt = 1) ∧ ((oI (f h0) 18).toInt = 1 ∨ (oI (f0 h0) 13).toInt < (oI (f h0) 13).toInt)) ∧ (GI f h0 gO gA ga (gu))
set_option maxHeartbeats 4000000 in
set_option maxRecDepth 100000 in
theorem c_X12_open (l : Launch) (G : va_G) (cI cJ cZ cD cR cT : ClassId) (kp : Nat → Nat) (L : List Nat) (f0 : Nat → va_E) (hTH : TH cI cJ cZ cD cR cT kp L f0) (sz : Nat) (gO : Nat → Int32) (gA : Nat → Int32) (ga : Int) (gt : Int) (gu : Int) (h0 : Nat) (u1 : Int32) (rh0 : RK kp L h0 12) (pu1 : (30 : Int) ≤ u1.toInt ∧ u1.toInt ≤ 31) (hq : (oI (f0 h0) 21).toInt + (oI (f0 h0) 27).toInt ≤ (oI (f0 h0) 13).toInt ∧ (oI (f0 h0) 13).toInt ≤ (oI (f0 h0) 14).toInt ∧ (oI (f0 h0) 14).toInt ≤ (oI (f0 h0) 12).toInt ∧ ((oI (f0 h0) 15).toInt = 0 ∨ (oI (f0 h0) 13).toInt < (oI (f0 h0) 14).toInt) ∧ (¬ (oI (f0 h0) 15).toInt = 1 ∨ (oJ (f0 h0) 16).toInt ≤ 26 ∨ (oI (f0 h0) 13).toInt + 2 ≤ (oI (f0 h0) 14).toInt) ∧ ¬ (oI (f0 h0) 15).toInt = 0 ∧ ((u1.toInt = 30 ∧ gt = 0 ∧ gu = 0) ∨ (u1.toInt = 31 ∧ (gt = 0 ∨ gt = 1) ∧ gu = 1))) (hG : GI f0 h0 gO gA ga (gt)) : Met l yX12_open (Cond.code yX12_open cX12_open 2 none :: wTab) ({ frames := 4, cells := 0, slots := 0, locals := 101 }) (va_Pc [.ref h0, .int u1] (PreW G (tys6 cI cJ cZ cD cR cT) (va_pl L f0) sz)) (QT (po_X12_open kp L f0 gO gA ga gt gu h0 u1) G cI cJ cZ cD cR cT (va_A (va_pl L f0) sz) kp L) 0 0 (va_A (va_pl L f0) sz) := by
  refine metT (by decide) (Nat.le_of_ble_eq_true rfl) hTH ?_
  intro p e s m below meth c A ls E hW hl
  obtain ⟨hx, hb, -, hml, hown, hts, -, -, -⟩ := id E
  have hF : FM kp L ms_X12_open f0 f0 := FM.rf
  have hl : lv_has ls 2 [(0, .ref h0), (1, .int u1)] := hl
  obtain ⟨pF12, mF12⟩ : ∃ x : Int32, oI (f0 h0) 12 = x := ⟨_, rfl⟩
  have bF12 : (0 : Int) ≤ pF12.toInt ∧ pF12.toInt ≤ 400 := by rw [← mF12]; exact th_iv hW rh0 (by decide) (by decide) rfl
  obtain ⟨pF13, mF13⟩ : ∃ x : Int32, oI (f0 h0) 13 = x := ⟨_, rfl⟩
  have bF13 : (0 : Int) ≤ pF13.toInt ∧ pF13.toInt ≤ 400 := by rw [← mF13]; exact th_iv hW rh0 (by decide) (by decide) rfl
  obtain ⟨pF14, mF14⟩ : ∃ x : Int32, oI (f0 h0) 14 = x := ⟨_, rfl⟩
  have bF14 : (0 : Int) ≤ pF14.toInt ∧ pF14.toInt ≤ 400 := by rw [← mF14]; exact th_iv hW rh0 (by decide) (by decide) rfl
  obtain ⟨pF15, mF15⟩ : ∃ x : Int32, oI (f0 h0) 15 = x := ⟨_, rfl⟩
  have bF15 : (0 : Int) ≤ pF15.toInt ∧ pF15.toInt ≤ 3 := by rw [← mF15]; exact th_iv hW rh0 (by decide) (by decide) rfl
  obtain ⟨pF18, mF18⟩ : ∃ x : Int32, oI (f0 h0) 18 = x := ⟨_, rfl⟩
  have bF18 : (0 : Int) ≤ pF18.toInt ∧ pF18.toInt ≤ 1 := by rw [← mF18]; exact th_iv hW rh0 (by decide) (by decide) rfl
  obtain ⟨pF21, mF21⟩ : ∃ x : Int32, oI (f0 h0) 21 = x := ⟨_, rfl⟩
  have bF21 : (0 : Int) ≤ pF21.toInt ∧ pF21.toInt ≤ 400 := by rw [← mF21]; exact th_iv hW rh0 (by decide) (by decide) rfl
  obtain ⟨pF24, mF24⟩ : ∃ x : Int32, oI (f0 h0) 24 = x := ⟨_, rfl⟩
  have bF24 : (0 : Int) ≤ pF24.toInt ∧ pF24.toInt ≤ 50 := by rw [← mF24]; exact th_iv hW rh0 (by decide) (by decide) rfl
  obtain ⟨pF27, mF27⟩ : ∃ x : Int32, oI (f0 h0) 27 = x := ⟨_, rfl⟩
  have bF27 : (0 : Int) ≤ pF27.toInt ∧ pF27.toInt ≤ 400 := by rw [← mF27]; exact th_iv hW rh0 (by decide) (by decide) rfl
  obtain ⟨pW, mW⟩ : ∃ x : Int64, oJ (f0 h0) 16 = x := ⟨_, rfl⟩
  simp only [mF12, mF13, mF14, mF15, mF18, mF21, mF24, mF27, mW] at hq
  obtain ⟨pR, mR⟩ : ∃ x : Nat, oR (f0 h0) 2 = x := ⟨_, rfl⟩
  have rR : RK kp L pR 822 := by rw [← mR]; exact th_ref hTH rh0 (by decide) (by decide) rfl
  refine lv_aload_n hx hb dX12_open_0 rfl (lv_at hl 0 rfl) ?_
  refine lv_aload_n hx hb dX12_open_1 rfl (lv_at hl 0 rfl) ?_
  refine fg_RX12_284 E hW rh0 dX12_open_2 (fun y1 m2 => ?_)
  refine lv_bipush (v := 8) hx hb dX12_open_5 (by decide) ?_
  refine q_icmp_ge (Y := 8) (tgt := 14) hx hb dX12_open_7 (by decide) rfl rfl (fun c4 => ?_) (fun c4 => ?_)
  · refine lv_iconst (v := 0) hx hb dX12_open_14 (by decide) ?_
    have hw9 := hW.2.2.2
    refine t_callV (As := [.int 0]) (rest := []) E hW (c_X12_must l G cI cJ cZ cD cR cT kp L f0 hW.2.2.2 _ h0 0 rh0 (by decide) (by have hkq5 : (0 : Int32).toInt = 0 := rfl; simp only [mF12, mF13, mF14, mF15, mW, and_true, true_and, true_or, or_true, false_or, or_false] <;> omega)) rh0 (by decide) rfl wk_X12_must tw_1807 rfl ⟨Nat.le_of_ble_eq_true rfl, Nat.le_of_ble_eq_true rfl⟩ ⟨rfl, rfl⟩ hl.1 rfl (Nat.le_of_ble_eq_true rfl) dX12_open_15 ⟨Nat.le_of_ble_eq_true rfl, Nat.le_of_ble_eq_true rfl⟩ (fun v6 f7 H locs q8 hW => ?_)
    obtain ⟨rfl, g10, h11⟩ := q8
    have hF := FM.tr hF g10 rfl
    have hk12 : (0 : Int32).toInt = 0 := rfl
    obtain ⟨y13, m14⟩ : ∃ x : Int32, oI (f7 h0) 13 = x := ⟨_, rfl⟩
    have b15 : (0 : Int) ≤ y13.toInt ∧ y13.toInt ≤ 400 := by rw [← m14]; exact th_iv hW rh0 (by decide) (by decide) rfl
    obtain ⟨y16, m17⟩ : ∃ x : Int32, oI (f7 h0) 14 = x := ⟨_, rfl⟩
    have b18 : (0 : Int) ≤ y16.toInt ∧ y16.toInt ≤ 400 := by rw [← m17]; exact th_iv hW rh0 (by decide) (by decide) rfl
    obtain ⟨y19, m20⟩ : ∃ x : Int32, oI (f7 h0) 15 = x := ⟨_, rfl⟩
    have b21 : (0 : Int) ≤ y19.toInt ∧ y19.toInt ≤ 3 := by rw [← m20]; exact th_iv hW rh0 (by decide) (by decide) rfl
    obtain ⟨y22, m23⟩ : ∃ x : Int32, oI (f7 h0) 18 = x := ⟨_, rfl⟩
    have b24 : (0 : Int) ≤ y22.toInt ∧ y22.toInt ≤ 1 := by rw [← m23]; exact th_iv hW rh0 (by decide) (by decide) rfl
    obtain ⟨y25, m26⟩ : ∃ x : Int64, oJ (f7 h0) 16 = x := ⟨_, rfl⟩
    simp only [((fm_I g10 rh0 rfl).trans mF12), mF12, m14, mF13, m17, mF14, m20, mF15, m23, mF18, m26, mW] at h11
    have z27 : GI f7 h0 gO gA ga (gt) := gi_keep hG hw9 g10 rh0 rfl rfl (fun q => by rw [mF18] at q; rw [m23]; omega)
    refine lv_aload_n hx hb dX12_open_18 rfl (lv_at hl 0 rfl) ?_
    refine fg_RX12_193 E hW rh0 dX12_open_19 (fun y28 m29 b30 => ?_)
    obtain rfl : y22 = y28 := (m23).symm.trans m29
    refine q_if_ne (tgt := 41) hx hb dX12_open_22 (by decide) rfl (fun c31 => ?_) (fun c31 => ?_)
    · exact e_V E hW rfl ⟨rfl, hF, (by simp only [((fm_I g10 rh0 rfl).trans mF12), mF12, m14, mF13, m17, mF14, m20, mF15, m29, mF18, ((fm_I g10 rh0 rfl).trans mF21), mF21, ((fm_I g10 rh0 rfl).trans mF27), mF27, m26, mW, and_true, true_and, true_or, or_true, false_or, or_false] <;> omega), (Or.inl (by rw [m29]; omega))⟩ dX12_open_41
    · refine lv_aload_n hx hb dX12_open_25 rfl (lv_at hl 0 rfl) ?_
      refine lv_dup hx hb dX12_open_26 rfl ?_
      refine fg_RX12_284 E hW rh0 dX12_open_27 (fun y32 m33 => ?_)
      obtain rfl : y1 = y32 := (((fm_I g10 rh0 rfl).trans m2)).symm.trans m33
      refine lv_iconst (v := 1) hx hb dX12_open_30 (by decide) ?_
      refine u_iadd hx hb dX12_open_31 (fun x35 => ?_)
      have hw40 := hW.2.2.2
      refine fp_RX12_284 E hW rh0 dX12_open_32 (fun f36 H locs e37 n38 g39 hW => ?_)
      have z41 : GI f36 h0 gO gA ga (gt) := gi_keep z27 hw40 g39 rh0 rfl rfl (fun q => by rw [fm_I g39 rh0 rfl]; exact q)
      have hF := FM.tr hF g39 rfl
      refine lv_aload_n hx hb dX12_open_35 rfl (lv_at hl 0 rfl) ?_
      refine lv_iload_n hx hb dX12_open_36 rfl (lv_at hl 1 rfl) ?_
      refine lv_iconst (v := 0) hx hb dX12_open_37 (by decide) ?_
      have hw46 := hW.2.2.2
      refine t_callV (As := [.int u1, .int 0]) (rest := []) E hW (c_X12_push l G cI cJ cZ cD cR cT kp L f36 hW.2.2.2 _ h0 u1 0 rh0 (by omega) (by decide) (by have hkq42 : (0 : Int32).toInt = 0 := rfl; simp only [((fm_I g39 rh0 rfl).trans ((fm_I g10 rh0 rfl).trans mF27)), and_true, true_and, true_or, or_true, false_or, or_false] <;> omega)) rh0 (by decide) rfl wk_X12_push tw_1828 rfl ⟨Nat.le_of_ble_eq_true rfl, Nat.le_of_ble_eq_true rfl⟩ ⟨rfl, rfl⟩ hl.1 rfl (Nat.le_of_ble_eq_true rfl) dX12_open_38 ⟨Nat.le_of_ble_eq_true rfl, Nat.le_of_ble_eq_true rfl⟩ (fun v43 f44 H locs q45 hW => ?_)
      obtain ⟨rfl, g47, h48, h49⟩ := q45
      have hF := FM.tr hF g47 rfl
      have hk50 : (0 : Int32).toInt = 0 := rfl
      obtain ⟨y51, m52⟩ : ∃ x : Int32, oI (f44 h0) 27 = x := ⟨_, rfl⟩
      have b53 : (0 : Int) ≤ y51.toInt ∧ y51.toInt ≤ 400 := by rw [← m52]; exact th_iv hW rh0 (by decide) (by decide) rfl
      simp only [m52, ((fm_I g39 rh0 rfl).trans ((fm_I g10 rh0 rfl).trans mF27))] at h48
      have z54 : GI f44 h0 gO gA ga (gu) := gi_push z41 hw46 g47 rh0 rfl rfl (by rw [((fm_I g39 rh0 rfl).trans ((fm_I g10 rh0 rfl).trans mF27))]; omega) h49 (by omega)
      exact e_V E hW rfl ⟨rfl, hF, (by simp only [((fm_I g47 rh0 rfl).trans ((fm_I g39 rh0 rfl).trans ((fm_I g10 rh0 rfl).trans mF12))), mF12, ((fm_I g47 rh0 rfl).trans ((fm_I g39 rh0 rfl).trans m14)), mF13, ((fm_I g47 rh0 rfl).trans ((fm_I g39 rh0 rfl).trans m17)), mF14, ((fm_I g47 rh0 rfl).trans ((fm_I g39 rh0 rfl).trans m20)), mF15, ((fm_I g47 rh0 rfl).trans ((fm_I g39 rh0 rfl).trans m29)), mF18, ((fm_I g47 rh0 rfl).trans ((fm_I g39 rh0 rfl).trans ((fm_I g10 rh0 rfl).trans mF21))), mF21, m52, mF27, ((fm_J g47 rh0 rfl).trans ((fm_J g39 rh0 rfl).trans m26)), mW, and_true, true_and, true_or, or_true, false_or, or_false] <;> omega), z54⟩ dX12_open_41
  · refine lv_iconst (v := 1) hx hb dX12_open_10 (by decide) ?_
    refine lv_goto (tgt := 15) hx hb dX12_open_11 (by decide) ?_
    have hw59 := hW.2.2.2
    refine t_callV (As := [.int 1]) (rest := []) E hW (c_X12_must l G cI cJ cZ cD cR cT kp L f0 hW.2.2.2 _ h0 1 rh0 (by decide) (by have hkq55 : (1 : Int32).toInt = 1 := rfl; simp only [mF12, mF13, mF14, mF15, mW, and_true, true_and, true_or, or_true, false_or, or_false] <;> omega)) rh0 (by decide) rfl wk_X12_must tw_1807 rfl ⟨Nat.le_of_ble_eq_true rfl, Nat.le_of_ble_eq_true rfl⟩ ⟨rfl, rfl⟩ hl.1 rfl (Nat.le_of_ble_eq_true rfl) dX12_open_15 ⟨Nat.le_of_ble_eq_true rfl, Nat.le_of_ble_eq_true rfl⟩ (fun v56 f57 H locs q58 hW => ?_)
    obtain ⟨rfl, g60, h61⟩ := q58
    have hF := FM.tr hF g60 rfl
    have hk62 : (1 : Int32).toInt = 1 := rfl
    obtain ⟨y63, m64⟩ : ∃ x : Int32, oI (f57 h0) 13 = x := ⟨_, rfl⟩
    have b65 : (0 : Int) ≤ y63.toInt ∧ y63.toInt ≤ 400 := by rw [← m64]; exact th_iv hW rh0 (by decide) (by decide) rfl
    obtain ⟨y66, m67⟩ : ∃ x : Int32, oI (f57 h0) 14 = x := ⟨_, rfl⟩
    have b68 : (0 : Int) ≤ y66.toInt ∧ y66.toInt ≤ 400 := by rw [← m67]; exact th_iv hW rh0 (by decide) (by decide) rfl
    obtain ⟨y69, m70⟩ : ∃ x : Int32, oI (f57 h0) 15 = x := ⟨_, rfl⟩
    have b71 : (0 : Int) ≤ y69.toInt ∧ y69.toInt ≤ 3 := by rw [← m70]; exact th_iv hW rh0 (by decide) (by decide) rfl
    obtain ⟨y72, m73⟩ : ∃ x : Int32, oI (f57 h0) 18 = x := ⟨_, rfl⟩
    have b74 : (0 : Int) ≤ y72.toInt ∧ y72.toInt ≤ 1 := by rw [← m73]; exact th_iv hW rh0 (by decide) (by decide) rfl
    obtain ⟨y75, m76⟩ : ∃ x : Int64, oJ (f57 h0) 16 = x := ⟨_, rfl⟩
    simp only [((fm_I g60 rh0 rfl).trans mF12), mF12, m64, mF13, m67, mF14, m70, mF15, m73, mF18, m76, mW] at h61
    have z77 : GI f57 h0 gO gA ga (gt) := gi_keep hG hw59 g60 rh0 rfl rfl (fun q => by rw [mF18] at q; rw [m73]; omega)
    refine lv_aload_n hx hb dX12_open_18 rfl (lv_at hl 0 rfl) ?_
    refine fg_RX12_193 E hW rh0 dX12_open_19 (fun y78 m79 b80 => ?_)
    obtain rfl : y72 = y78 := (m73).symm.trans m79
    refine q_if_ne (tgt := 41) hx hb dX12_open_22 (by decide) rfl (fun c81 => ?_) (fun c81 => ?_)
    · exact e_V E hW rfl ⟨rfl, hF, (by simp only [((fm_I g60 rh0 rfl).trans mF12), mF12, m64, mF13, m67, mF14, m70, mF15, m79, mF18, ((fm_I g60 rh0 rfl).trans mF21), mF21, ((fm_I g60 rh0 rfl).trans mF27), mF27, m76, mW, and_true, true_and, true_or, or_true, false_or, or_false] <;> omega), (Or.inl (by rw [m79]; omega))⟩ dX12_open_41
    · refine lv_aload_n hx hb dX12_open_25 rfl (lv_at hl 0 rfl) ?_
      refine lv_dup hx hb dX12_open_26 rfl ?_
      refine fg_RX12_284 E hW rh0 dX12_open_27 (fun y82 m83 => ?_)
      obtain rfl : y1 = y82 := (((fm_I g60 rh0 rfl).trans m2)).symm.trans m83
      refine lv_iconst (v := 1) hx hb dX12_open_30 (by decide) ?_
      have hb87 : -2147483648 ≤ y1.toInt ∧ y1.toInt ≤ 2147483647 := i32_b y1
      refine q_iadd (Y := 1) hx hb dX12_open_31 rfl rfl (by omega) (fun x85 h86 => ?_)
      have hw92 := hW.2.2.2
      refine fp_RX12_284 E hW rh0 dX12_open_32 (fun f88 H locs e89 n90 g91 hW => ?_)
      have z93 : GI f88 h0 gO gA ga (gt) := gi_keep z77 hw92 g91 rh0 rfl rfl (fun q => by rw [fm_I g91 rh0 rfl]; exact q)
      have hF := FM.tr hF g91 rfl
      refine lv_aload_n hx hb dX12_open_35 rfl (lv_at hl 0 rfl) ?_
      refine lv_iload_n hx hb dX12_open_36 rfl (lv_at hl 1 rfl) ?_
      refine lv_iconst (v := 0) hx hb dX12_open_37 (by decide) ?_
      have hw98 := hW.2.2.2
      refine t_callV (As := [.int u1, .int 0]) (rest := []) E hW (c_X12_push l G cI cJ cZ cD cR cT kp L f88 hW.2.2.2 _ h0 u1 0 rh0 (by omega) (by decide) (by have hkq94 : (0 : Int32).toInt = 0 := rfl; simp only [((fm_I g91 rh0 rfl).trans ((fm_I g60 rh0 rfl).trans mF27)), and_true, true_and, true_or, or_true, false_or, or_false] <;> omega)) rh0 (by decide) rfl wk_X12_push tw_1828 rfl ⟨Nat.le_of_ble_eq_true rfl, Nat.le_of_ble_eq_true rfl⟩ ⟨rfl, rfl⟩ hl.1 rfl (Nat.le_of_ble_eq_true rfl) dX12_open_38 ⟨Nat.le_of_ble_eq_true rfl, Nat.le_of_ble_eq_true rfl⟩ (fun v95 f96 H locs q97 hW => ?_)
      obtain ⟨rfl, g99, h100, h101⟩ := q97
      have hF := FM.tr hF g99 rfl
      have hk102 : (0 : Int32).toInt = 0 := rfl
      obtain ⟨y103, m104⟩ : ∃ x : Int32, oI (f96 h0) 27 = x := ⟨_, rfl⟩
      have b105 : (0 : Int) ≤ y103.toInt ∧ y103.toInt ≤ 400 := by rw [← m104]; exact th_iv hW rh0 (by decide) (by decide) rfl
      simp only [m104, ((fm_I g91 rh0 rfl).trans ((fm_I g60 rh0 rfl).trans mF27))] at h100
      have z106 : GI f96 h0 gO gA ga (gu) := gi_push z93 hw98 g99 rh0 rfl rfl (by rw [((fm_I g91 rh0 rfl).trans ((fm_I g60 rh0 rfl).trans mF27))]; omega) h101 (by omega)
      exact e_V E hW rfl ⟨rfl, hF, (by simp only [((fm_I g99 rh0 rfl).trans ((fm_I g91 rh0 rfl).trans ((fm_I g60 rh0 rfl).trans mF12))), mF12, ((fm_I g99 rh0 rfl).trans ((fm_I g91 rh0 rfl).trans m64)), mF13, ((fm_I g99 rh0 rfl).trans ((fm_I g91 rh0 rfl).trans m67)), mF14, ((fm_I g99 rh0 rfl).trans ((fm_I g91 rh0 rfl).trans m70)), mF15, ((fm_I g99 rh0 rfl).trans ((fm_I g91 rh0 rfl).trans m79)), mF18, ((fm_I g99 rh0 rfl).trans ((fm_I g91 rh0 rfl).trans ((fm_I g60 rh0 rfl).trans mF21))), mF21, m104, mF27, ((fm_J g99 rh0 rfl).trans ((fm_J g91 rh0 rfl).trans m76)), mW, and_true, true_and, true_or, or_true, false_or, or_false] <;> omega), z106⟩ dX12_open_41
def ms_X12_readPart : List (Nat × Nat) := [(12, 13), (12, 14), (12, 15), (12, 16), (12, 17), (12, 18), (12, 21), (12, 24), (12, 27), (12, 28), (842, 0), (843, 0), (845, 0), (846, 0)]
def po_X12_readPart (kp : Nat → Nat) (L : List Nat) (f0 : Nat → va_E) (gO : Nat → Int32) (gA : Nat → Int32) (ga : Int) (gt : Int) (h0 : Nat) : Option Value → (Nat → va_E) → Prop := fun v f => (∃ r : Int32, v = some (.int r) ∧ ((1 : Int) ≤ r.toInt ∧ r.toInt ≤ 3)) ∧ FM kp L ms_X12_readPart f0 f ∧ (∀ r : Int32, v = some (.int r) → ((oI (f h0) 21).toInt + (oI (f h0) 27).toInt ≤ (oI (f h0) 13).toInt ∧ (oI (f h0) 13).toInt ≤ (oI (f h0) 14).toInt ∧ (oI (f h0) 14).toInt ≤ (oI (f0 h0) 12).toInt ∧ ((oI (f h0) 15).toInt = 0 ∨ (oI (f h0) 13).toInt < (oI (f h0) 14).toInt) ∧ (¬ (oI (f h0) 15).toInt = 1 ∨ (oJ (f h0) 16).toInt ≤ 26 ∨ (oI (f h0) 13).toInt + 2 ≤ (oI (f h0) 14).toInt) ∧ (oI (f0 h0) 21).toInt ≤ (oI (f h0) 21).toInt ∧ (oI (f0 h0) 13).toInt ≤ (oI (f h0) 13).toInt ∧ (¬ (oI (f0 h0) 18).toInt = 1 ∨ (oI (f h0) 18).toInt = 1) ∧ ((oI (f h0) 18).toInt = 1 ∨ (oI (f0 h0) 13).toInt < (oI (f h0) 13).toInt) ∧ (r.toInt = 1 ∨ r.toInt = 3))) ∧ (∀ r : Int32, v = some (.int r) → GI f h0 gO gA ga (r.toInt))
set_option maxHeartbeats 4000000 in
set_option maxRecDepth 100000 in
theorem c_X12_readPart (l : Launch) (G : va_G) (cI cJ cZ cD cR cT : ClassId) (kp : Nat → Nat) (L : List Nat) (f0 : Nat → va_E) (hTH : TH cI cJ cZ cD cR cT kp L f0) (sz : Nat) (gO : Nat → Int32) (gA : Nat → Int32) (ga : Int) (gt : Int) (h0 : Nat) (rh0 : RK kp L h0 12) (hq : (oI (f0 h0) 21).toInt + (oI (f0 h0) 27).toInt ≤ (oI (f0 h0) 13).toInt ∧ (oI (f0 h0) 13).toInt ≤ (oI (f0 h0) 14).toInt ∧ (oI (f0 h0) 14).toInt ≤ (oI (f0 h0) 12).toInt ∧ ((oI (f0 h0) 15).toInt = 0 ∨ (oI (f0 h0) 13).toInt < (oI (f0 h0) 14).toInt) ∧ (¬ (oI (f0 h0) 15).toInt = 1 ∨ (oJ (f0 h0) 16).toInt ≤ 26 ∨ (oI (f0 h0) 13).toInt + 2 ≤ (oI (f0 h0) 14).toInt) ∧ (gt = 0 ∨ gt = 1)) (hG : GI f0 h0 gO gA ga (gt)) : Met l yX12_readPart (Cond.code yX12_readPart cX12_readPart 3 (some .int) :: wTab) ({ frames := 5, cells := 0, slots := 0, locals := 124 }) (va_Pc [.ref h0] (PreW G (tys6 cI cJ cZ cD cR cT) (va_pl L f0) sz)) (QT (po_X12_readPart kp L f0 gO gA ga gt h0) G cI cJ cZ cD cR cT (va_A (va_pl L f0) sz) kp L) 0 0 (va_A (va_pl L f0) sz) := by
  refine metT (by decide) (Nat.le_of_ble_eq_true rfl) hTH ?_
  intro p e s m below meth c A ls E hW hl
  obtain ⟨hx, hb, -, hml, hown, hts, -, -, -⟩ := id E
  have hF : FM kp L ms_X12_readPart f0 f0 := FM.rf
  have hl : lv_has ls 3 [(0, .ref h0)] := hl
  obtain ⟨pF12, mF12⟩ : ∃ x : Int32, oI (f0 h0) 12 = x := ⟨_, rfl⟩
  have bF12 : (0 : Int) ≤ pF12.toInt ∧ pF12.toInt ≤ 400 := by rw [← mF12]; exact th_iv hW rh0 (by decide) (by decide) rfl
  obtain ⟨pF13, mF13⟩ : ∃ x : Int32, oI (f0 h0) 13 = x := ⟨_, rfl⟩
  have bF13 : (0 : Int) ≤ pF13.toInt ∧ pF13.toInt ≤ 400 := by rw [← mF13]; exact th_iv hW rh0 (by decide) (by decide) rfl
  obtain ⟨pF14, mF14⟩ : ∃ x : Int32, oI (f0 h0) 14 = x := ⟨_, rfl⟩
  have bF14 : (0 : Int) ≤ pF14.toInt ∧ pF14.toInt ≤ 400 := by rw [← mF14]; exact th_iv hW rh0 (by decide) (by decide) rfl
  obtain ⟨pF15, mF15⟩ : ∃ x : Int32, oI (f0 h0) 15 = x := ⟨_, rfl⟩
  have bF15 : (0 : Int) ≤ pF15.toInt ∧ pF15.toInt ≤ 3 := by rw [← mF15]; exact th_iv hW rh0 (by decide) (by decide) rfl
  obtain ⟨pF18, mF18⟩ : ∃ x : Int32, oI (f0 h0) 18 = x := ⟨_, rfl⟩
  have bF18 : (0 : Int) ≤ pF18.toInt ∧ pF18.toInt ≤ 1 := by rw [← mF18]; exact th_iv hW rh0 (by decide) (by decide) rfl
  obtain ⟨pF21, mF21⟩ : ∃ x : Int32, oI (f0 h0) 21 = x := ⟨_, rfl⟩
  have bF21 : (0 : Int) ≤ pF21.toInt ∧ pF21.toInt ≤ 400 := by rw [← mF21]; exact th_iv hW rh0 (by decide) (by decide) rfl
  obtain ⟨pF24, mF24⟩ : ∃ x : Int32, oI (f0 h0) 24 = x := ⟨_, rfl⟩
  have bF24 : (0 : Int) ≤ pF24.toInt ∧ pF24.toInt ≤ 50 := by rw [← mF24]; exact th_iv hW rh0 (by decide) (by decide) rfl
  obtain ⟨pF27, mF27⟩ : ∃ x : Int32, oI (f0 h0) 27 = x := ⟨_, rfl⟩
  have bF27 : (0 : Int) ≤ pF27.toInt ∧ pF27.toInt ≤ 400 := by rw [← mF27]; exact th_iv hW rh0 (by decide) (by decide) rfl
  obtain ⟨pW, mW⟩ : ∃ x : Int64, oJ (f0 h0) 16 = x := ⟨_, rfl⟩
  simp only [mF12, mF13, mF14, mF15, mF18, mF21, mF24, mF27, mW] at hq
  obtain ⟨pR, mR⟩ : ∃ x : Nat, oR (f0 h0) 2 = x := ⟨_, rfl⟩
  have rR : RK kp L pR 822 := by rw [← mR]; exact th_ref hTH rh0 (by decide) (by decide) rfl
  refine lv_aload_n hx hb dX12_readPart_0 rfl (lv_at hl 0 rfl) ?_
  refine lv_bipush (v := 91) hx hb dX12_readPart_1 (by decide) ?_
  have hw4 := hW.2.2.2
  refine t_callV (As := [.int 91]) (rest := []) E hW (c_X12_isSign l G cI cJ cZ cD cR cT kp L f0 hW.2.2.2 _ h0 91 rh0 (by decide)) rh0 (by decide) rfl wk_X12_isSign tw_1832 rfl ⟨Nat.le_of_ble_eq_true rfl, Nat.le_of_ble_eq_true rfl⟩ ⟨rfl, rfl⟩ hl.1 rfl (Nat.le_of_ble_eq_true rfl) dX12_readPart_3 ⟨Nat.le_of_ble_eq_true rfl, Nat.le_of_ble_eq_true rfl⟩ (fun v1 f2 H locs q3 hW => ?_)
  obtain ⟨⟨x6, rfl, p7⟩, g5⟩ := q3
  simp only [mF15, mW] at p7
  have p7 : (x6.toInt = 1 ∧ pF15.toInt = 3) ∨ x6.toInt = 0 := p7
  have z8 : GI f2 h0 gO gA ga (gt) := gi_keep hG hw4 g5 rh0 rfl rfl (fun q => by rw [fm_I g5 rh0 rfl]; exact q)
  have hF := FM.tr hF g5 rfl
  refine q_if_eq (tgt := 17) hx hb dX12_readPart_6 (by decide) rfl (fun c9 => ?_) (fun c9 => ?_)
  · clear p7
    refine lv_aload_n hx hb dX12_readPart_17 rfl (lv_at hl 0 rfl) ?_
    have hw13 := hW.2.2.2
    refine t_callV (As := []) (rest := []) E hW (c_X12_partAt l G cI cJ cZ cD cR cT kp L f2 hW.2.2.2 _ h0 rh0) rh0 (by decide) rfl wk_X12_partAt tw_1860 rfl ⟨Nat.le_of_ble_eq_true rfl, Nat.le_of_ble_eq_true rfl⟩ ⟨rfl, rfl⟩ hl.1 rfl (Nat.le_of_ble_eq_true rfl) dX12_readPart_18 ⟨Nat.le_of_ble_eq_true rfl, Nat.le_of_ble_eq_true rfl⟩ (fun v10 f11 H locs q12 hW => ?_)
    obtain ⟨⟨x15, rfl, p16⟩, g14⟩ := q12
    simp only [((fm_I g5 rh0 rfl).trans mF15), ((fm_J g5 rh0 rfl).trans mW)] at p16
    have z17 : GI f11 h0 gO gA ga (gt) := gi_keep z8 hw13 g14 rh0 rfl rfl (fun q => by rw [fm_I g14 rh0 rfl]; exact q)
    have hF := FM.tr hF g14 rfl
    refine lv_istore_n (lv' := [(1, .int x15), (0, .ref h0)]) hx hb dX12_readPart_21 rfl hl (by decide) rfl (fun ls hl => ?_)
    refine lv_aload_n hx hb dX12_readPart_22 rfl (lv_at hl 1 rfl) ?_
    refine fg_RX12_212 E hW rh0 dX12_readPart_23 (fun y18 m19 b20 => ?_)
    obtain rfl : pF15 = y18 := (((fm_I g14 rh0 rfl).trans ((fm_I g5 rh0 rfl).trans mF15))).symm.trans m19
    refine lv_iconst (v := 2) hx hb dX12_readPart_26 (by decide) ?_
    refine q_icmp_ne (Y := 2) (tgt := 45) hx hb dX12_readPart_27 (by decide) rfl rfl (fun c21 => ?_) (fun c21 => ?_)
    · refine lv_iconst (v := 0) hx hb dX12_readPart_45 (by decide) ?_
      refine lv_istore_n (lv' := [(2, .int 0), (1, .int x15), (0, .ref h0)]) hx hb dX12_readPart_46 rfl hl (by decide) rfl (fun ls hl => ?_)
      refine lv_aload_n hx hb dX12_readPart_47 rfl (lv_at hl 2 rfl) ?_
      refine lv_iload_n hx hb dX12_readPart_48 rfl (lv_at hl 1 rfl) ?_
      refine lv_iconst (v := (-1)) hx hb dX12_readPart_49 (by decide) ?_
      refine q_icmp_ne (Y := -1) (tgt := 57) hx hb dX12_readPart_50 (by decide) rfl rfl (fun c22 => ?_) (fun c22 => ?_)
      · refine lv_iconst (v := 1) hx hb dX12_readPart_57 (by decide) ?_
        refine lv_goto (tgt := 62) hx hb dX12_readPart_58 (by decide) ?_
        refine lv_iload_n hx hb dX12_readPart_62 rfl (lv_at hl 1 rfl) ?_
        refine lv_iconst (v := (-1)) hx hb dX12_readPart_63 (by decide) ?_
        refine q_icmp_ne (Y := -1) (tgt := 71) hx hb dX12_readPart_64 (by decide) rfl rfl (fun c23 => ?_) (fun c23 => ?_)
        · refine lv_iload_n hx hb dX12_readPart_71 rfl (lv_at hl 1 rfl) ?_
          refine lv_iload_n hx hb dX12_readPart_72 rfl (lv_at hl 0 rfl) ?_
          refine q_if_eq (X := 0) (tgt := 84) hx hb dX12_readPart_73 (by decide) rfl (fun _ => ?_) (fun c => absurd c (by decide))
          refine lv_iconst (v := 0) hx hb dX12_readPart_84 (by decide) ?_
          have hw29 := hW.2.2.2
          refine t_callV (As := [.int 1, .int x15, .int 0]) (rest := []) E hW (c_X12_leaf l G cI cJ cZ cD cR cT kp L f11 hW.2.2.2 _ gO gA ga gt 3 h0 1 x15 0 rh0 (by decide) (by omega) (by have hkq24 : (1 : Int32).toInt = 1 := rfl; have hkq25 : (0 : Int32).toInt = 0 := rfl; simp only [((fm_I g14 rh0 rfl).trans ((fm_I g5 rh0 rfl).trans mF12)), ((fm_I g14 rh0 rfl).trans ((fm_I g5 rh0 rfl).trans mF13)), ((fm_I g14 rh0 rfl).trans ((fm_I g5 rh0 rfl).trans mF14)), m19, ((fm_I g14 rh0 rfl).trans ((fm_I g5 rh0 rfl).trans mF21)), ((fm_I g14 rh0 rfl).trans ((fm_I g5 rh0 rfl).trans mF27)), ((fm_J g14 rh0 rfl).trans ((fm_J g5 rh0 rfl).trans mW)), and_true, true_and, true_or, or_true, false_or, or_false] <;> omega) z17) rh0 (by decide) rfl wk_X12_leaf tw_1848 rfl ⟨Nat.le_of_ble_eq_true rfl, Nat.le_of_ble_eq_true rfl⟩ ⟨rfl, rfl⟩ hl.1 rfl (Nat.le_of_ble_eq_true rfl) dX12_readPart_85 ⟨Nat.le_of_ble_eq_true rfl, Nat.le_of_ble_eq_true rfl⟩ (fun v26 f27 H locs q28 hW => ?_)
          obtain ⟨rfl, g30, h31, h32⟩ := q28
          have hF := FM.tr hF g30 rfl
          have hk33 : (1 : Int32).toInt = 1 := rfl
          have hk34 : (0 : Int32).toInt = 0 := rfl
          obtain ⟨y35, m36⟩ : ∃ x : Int32, oI (f27 h0) 13 = x := ⟨_, rfl⟩
          have b37 : (0 : Int) ≤ y35.toInt ∧ y35.toInt ≤ 400 := by rw [← m36]; exact th_iv hW rh0 (by decide) (by decide) rfl
          obtain ⟨y38, m39⟩ : ∃ x : Int32, oI (f27 h0) 14 = x := ⟨_, rfl⟩
          have b40 : (0 : Int) ≤ y38.toInt ∧ y38.toInt ≤ 400 := by rw [← m39]; exact th_iv hW rh0 (by decide) (by decide) rfl
          obtain ⟨y41, m42⟩ : ∃ x : Int32, oI (f27 h0) 15 = x := ⟨_, rfl⟩
          have b43 : (0 : Int) ≤ y41.toInt ∧ y41.toInt ≤ 3 := by rw [← m42]; exact th_iv hW rh0 (by decide) (by decide) rfl
          obtain ⟨y44, m45⟩ : ∃ x : Int32, oI (f27 h0) 18 = x := ⟨_, rfl⟩
          have b46 : (0 : Int) ≤ y44.toInt ∧ y44.toInt ≤ 1 := by rw [← m45]; exact th_iv hW rh0 (by decide) (by decide) rfl
          obtain ⟨y47, m48⟩ : ∃ x : Int32, oI (f27 h0) 21 = x := ⟨_, rfl⟩
          have b49 : (0 : Int) ≤ y47.toInt ∧ y47.toInt ≤ 400 := by rw [← m48]; exact th_iv hW rh0 (by decide) (by decide) rfl
          obtain ⟨y50, m51⟩ : ∃ x : Int64, oJ (f27 h0) 16 = x := ⟨_, rfl⟩
          simp only [((fm_I g30 rh0 rfl).trans ((fm_I g14 rh0 rfl).trans ((fm_I g5 rh0 rfl).trans mF12))), ((fm_I g14 rh0 rfl).trans ((fm_I g5 rh0 rfl).trans mF12)), m36, ((fm_I g14 rh0 rfl).trans ((fm_I g5 rh0 rfl).trans mF13)), m39, ((fm_I g14 rh0 rfl).trans ((fm_I g5 rh0 rfl).trans mF14)), m42, m19, m45, ((fm_I g14 rh0 rfl).trans ((fm_I g5 rh0 rfl).trans mF18)), m48, ((fm_I g14 rh0 rfl).trans ((fm_I g5 rh0 rfl).trans mF21)), ((fm_I g30 rh0 rfl).trans ((fm_I g14 rh0 rfl).trans ((fm_I g5 rh0 rfl).trans mF27))), ((fm_I g14 rh0 rfl).trans ((fm_I g5 rh0 rfl).trans mF27)), m51, ((fm_J g14 rh0 rfl).trans ((fm_J g5 rh0 rfl).trans mW))] at h31
          refine lv_iconst (v := 3) hx hb dX12_readPart_88 (by decide) ?_
          exact e_I E hW rfl ⟨⟨_, rfl, (by have hk : (3 : Int32).toInt = 3 := rfl; first | decide | omega)⟩, hF, (by intro r hr; cases hr; have hkr : (3 : Int32).toInt = 3 := rfl; simp only [((fm_I g30 rh0 rfl).trans ((fm_I g14 rh0 rfl).trans ((fm_I g5 rh0 rfl).trans mF12))), mF12, m36, mF13, m39, mF14, m42, mF15, m45, mF18, m48, mF21, ((fm_I g30 rh0 rfl).trans ((fm_I g14 rh0 rfl).trans ((fm_I g5 rh0 rfl).trans mF27))), mF27, m51, mW, and_true, true_and, true_or, or_true, false_or, or_false] <;> omega), (by intro r hr; cases hr; have hk : (3 : Int32).toInt = 3 := rfl; rw [hk]; exact h32)⟩ dX12_readPart_89
        · exfalso; omega
      · refine lv_iload_n hx hb dX12_readPart_53 rfl (lv_at hl 0 rfl) ?_
        refine q_if_eq (X := 0) (tgt := 61) hx hb dX12_readPart_54 (by decide) rfl (fun _ => ?_) (fun c => absurd c (by decide))
        refine lv_iconst (v := 0) hx hb dX12_readPart_61 (by decide) ?_
        refine lv_iload_n hx hb dX12_readPart_62 rfl (lv_at hl 1 rfl) ?_
        refine lv_iconst (v := (-1)) hx hb dX12_readPart_63 (by decide) ?_
        refine q_icmp_ne (Y := -1) (tgt := 71) hx hb dX12_readPart_64 (by decide) rfl rfl (fun c52 => ?_) (fun c52 => ?_)
        · exfalso; omega
        · refine lv_iconst (v := 0) hx hb dX12_readPart_67 (by decide) ?_
          refine lv_goto (tgt := 72) hx hb dX12_readPart_68 (by decide) ?_
          refine lv_iload_n hx hb dX12_readPart_72 rfl (lv_at hl 0 rfl) ?_
          refine q_if_eq (X := 0) (tgt := 84) hx hb dX12_readPart_73 (by decide) rfl (fun _ => ?_) (fun c => absurd c (by decide))
          refine lv_iconst (v := 0) hx hb dX12_readPart_84 (by decide) ?_
          have hw59 := hW.2.2.2
          refine t_callV (As := [.int 0, .int 0, .int 0]) (rest := []) E hW (c_X12_leaf l G cI cJ cZ cD cR cT kp L f11 hW.2.2.2 _ gO gA ga gt 3 h0 0 0 0 rh0 (by decide) (by decide) (by have hkq53 : (0 : Int32).toInt = 0 := rfl; have hkq54 : (0 : Int32).toInt = 0 := rfl; have hkq55 : (0 : Int32).toInt = 0 := rfl; simp only [((fm_I g14 rh0 rfl).trans ((fm_I g5 rh0 rfl).trans mF12)), ((fm_I g14 rh0 rfl).trans ((fm_I g5 rh0 rfl).trans mF13)), ((fm_I g14 rh0 rfl).trans ((fm_I g5 rh0 rfl).trans mF14)), m19, ((fm_I g14 rh0 rfl).trans ((fm_I g5 rh0 rfl).trans mF21)), ((fm_I g14 rh0 rfl).trans ((fm_I g5 rh0 rfl).trans mF27)), ((fm_J g14 rh0 rfl).trans ((fm_J g5 rh0 rfl).trans mW)), and_true, true_and, true_or, or_true, false_or, or_false] <;> omega) z17) rh0 (by decide) rfl wk_X12_leaf tw_1848 rfl ⟨Nat.le_of_ble_eq_true rfl, Nat.le_of_ble_eq_true rfl⟩ ⟨rfl, rfl⟩ hl.1 rfl (Nat.le_of_ble_eq_true rfl) dX12_readPart_85 ⟨Nat.le_of_ble_eq_true rfl, Nat.le_of_ble_eq_true rfl⟩ (fun v56 f57 H locs q58 hW => ?_)
          obtain ⟨rfl, g60, h61, h62⟩ := q58
          have hF := FM.tr hF g60 rfl
          have hk63 : (0 : Int32).toInt = 0 := rfl
          have hk64 : (0 : Int32).toInt = 0 := rfl
          have hk65 : (0 : Int32).toInt = 0 := rfl
          obtain ⟨y66, m67⟩ : ∃ x : Int32, oI (f57 h0) 13 = x := ⟨_, rfl⟩
          have b68 : (0 : Int) ≤ y66.toInt ∧ y66.toInt ≤ 400 := by rw [← m67]; exact th_iv hW rh0 (by decide) (by decide) rfl
          obtain ⟨y69, m70⟩ : ∃ x : Int32, oI (f57 h0) 14 = x := ⟨_, rfl⟩
          have b71 : (0 : Int) ≤ y69.toInt ∧ y69.toInt ≤ 400 := by rw [← m70]; exact th_iv hW rh0 (by decide) (by decide) rfl
          obtain ⟨y72, m73⟩ : ∃ x : Int32, oI (f57 h0) 15 = x := ⟨_, rfl⟩
          have b74 : (0 : Int) ≤ y72.toInt ∧ y72.toInt ≤ 3 := by rw [← m73]; exact th_iv hW rh0 (by decide) (by decide) rfl
          obtain ⟨y75, m76⟩ : ∃ x : Int32, oI (f57 h0) 18 = x := ⟨_, rfl⟩
          have b77 : (0 : Int) ≤ y75.toInt ∧ y75.toInt ≤ 1 := by rw [← m76]; exact th_iv hW rh0 (by decide) (by decide) rfl
          obtain ⟨y78, m79⟩ : ∃ x : Int32, oI (f57 h0) 21 = x := ⟨_, rfl⟩
          have b80 : (0 : Int) ≤ y78.toInt ∧ y78.toInt ≤ 400 := by rw [← m79]; exact th_iv hW rh0 (by decide) (by decide) rfl
          obtain ⟨y81, m82⟩ : ∃ x : Int64, oJ (f57 h0) 16 = x := ⟨_, rfl⟩
          simp only [((fm_I g60 rh0 rfl).trans ((fm_I g14 rh0 rfl).trans ((fm_I g5 rh0 rfl).trans mF12))), ((fm_I g14 rh0 rfl).trans ((fm_I g5 rh0 rfl).trans mF12)), m67, ((fm_I g14 rh0 rfl).trans ((fm_I g5 rh0 rfl).trans mF13)), m70, ((fm_I g14 rh0 rfl).trans ((fm_I g5 rh0 rfl).trans mF14)), m73, m19, m76, ((fm_I g14 rh0 rfl).trans ((fm_I g5 rh0 rfl).trans mF18)), m79, ((fm_I g14 rh0 rfl).trans ((fm_I g5 rh0 rfl).trans mF21)), ((fm_I g60 rh0 rfl).trans ((fm_I g14 rh0 rfl).trans ((fm_I g5 rh0 rfl).trans mF27))), ((fm_I g14 rh0 rfl).trans ((fm_I g5 rh0 rfl).trans mF27)), m82, ((fm_J g14 rh0 rfl).trans ((fm_J g5 rh0 rfl).trans mW))] at h61
          refine lv_iconst (v := 3) hx hb dX12_readPart_88 (by decide) ?_
          exact e_I E hW rfl ⟨⟨_, rfl, (by have hk : (3 : Int32).toInt = 3 := rfl; first | decide | omega)⟩, hF, (by intro r hr; cases hr; have hkr : (3 : Int32).toInt = 3 := rfl; simp only [((fm_I g60 rh0 rfl).trans ((fm_I g14 rh0 rfl).trans ((fm_I g5 rh0 rfl).trans mF12))), mF12, m67, mF13, m70, mF14, m73, mF15, m76, mF18, m79, mF21, ((fm_I g60 rh0 rfl).trans ((fm_I g14 rh0 rfl).trans ((fm_I g5 rh0 rfl).trans mF27))), mF27, m82, mW, and_true, true_and, true_or, or_true, false_or, or_false] <;> omega), (by intro r hr; cases hr; have hk : (3 : Int32).toInt = 3 := rfl; rw [hk]; exact h62)⟩ dX12_readPart_89
    · refine lv_aload_n hx hb dX12_readPart_30 rfl (lv_at hl 1 rfl) ?_
      refine fg_RX12_202 E hW rh0 dX12_readPart_31 (fun y83 m84 => ?_)
      obtain rfl : pW = y83 := (((fm_J g14 rh0 rfl).trans ((fm_J g5 rh0 rfl).trans mW))).symm.trans m84
      refine lv_ldc2 (v := 100000) hx hb hown (hts _ tw_1619) dX12_readPart_34 ?_
      refine q_lcmp_gt (Y := 100000) (tgt := 45) hx hb dX12_readPart_37 dX12_readPart_38 (by decide) rfl rfl (fun c85 => ?_) (fun c85 => ?_)
      · refine lv_iconst (v := 0) hx hb dX12_readPart_45 (by decide) ?_
        refine lv_istore_n (lv' := [(2, .int 0), (1, .int x15), (0, .ref h0)]) hx hb dX12_readPart_46 rfl hl (by decide) rfl (fun ls hl => ?_)
        refine lv_aload_n hx hb dX12_readPart_47 rfl (lv_at hl 2 rfl) ?_
        refine lv_iload_n hx hb dX12_readPart_48 rfl (lv_at hl 1 rfl) ?_
        refine lv_iconst (v := (-1)) hx hb dX12_readPart_49 (by decide) ?_
        refine q_icmp_ne (Y := -1) (tgt := 57) hx hb dX12_readPart_50 (by decide) rfl rfl (fun c86 => ?_) (fun c86 => ?_)
        · refine lv_iconst (v := 1) hx hb dX12_readPart_57 (by decide) ?_
          refine lv_goto (tgt := 62) hx hb dX12_readPart_58 (by decide) ?_
          refine lv_iload_n hx hb dX12_readPart_62 rfl (lv_at hl 1 rfl) ?_
          refine lv_iconst (v := (-1)) hx hb dX12_readPart_63 (by decide) ?_
          refine q_icmp_ne (Y := -1) (tgt := 71) hx hb dX12_readPart_64 (by decide) rfl rfl (fun c87 => ?_) (fun c87 => ?_)
          · refine lv_iload_n hx hb dX12_readPart_71 rfl (lv_at hl 1 rfl) ?_
            refine lv_iload_n hx hb dX12_readPart_72 rfl (lv_at hl 0 rfl) ?_
            refine q_if_eq (X := 0) (tgt := 84) hx hb dX12_readPart_73 (by decide) rfl (fun _ => ?_) (fun c => absurd c (by decide))
            refine lv_iconst (v := 0) hx hb dX12_readPart_84 (by decide) ?_
            have hw93 := hW.2.2.2
            refine t_callV (As := [.int 1, .int x15, .int 0]) (rest := []) E hW (c_X12_leaf l G cI cJ cZ cD cR cT kp L f11 hW.2.2.2 _ gO gA ga gt 3 h0 1 x15 0 rh0 (by decide) (by omega) (by have hkq88 : (1 : Int32).toInt = 1 := rfl; have hkq89 : (0 : Int32).toInt = 0 := rfl; simp only [((fm_I g14 rh0 rfl).trans ((fm_I g5 rh0 rfl).trans mF12)), ((fm_I g14 rh0 rfl).trans ((fm_I g5 rh0 rfl).trans mF13)), ((fm_I g14 rh0 rfl).trans ((fm_I g5 rh0 rfl).trans mF14)), m19, ((fm_I g14 rh0 rfl).trans ((fm_I g5 rh0 rfl).trans mF21)), ((fm_I g14 rh0 rfl).trans ((fm_I g5 rh0 rfl).trans mF27)), m84, and_true, true_and, true_or, or_true, false_or, or_false] <;> omega) z17) rh0 (by decide) rfl wk_X12_leaf tw_1848 rfl ⟨Nat.le_of_ble_eq_true rfl, Nat.le_of_ble_eq_true rfl⟩ ⟨rfl, rfl⟩ hl.1 rfl (Nat.le_of_ble_eq_true rfl) dX12_readPart_85 ⟨Nat.le_of_ble_eq_true rfl, Nat.le_of_ble_eq_true rfl⟩ (fun v90 f91 H locs q92 hW => ?_)
            obtain ⟨rfl, g94, h95, h96⟩ := q92
            have hF := FM.tr hF g94 rfl
            have hk97 : (1 : Int32).toInt = 1 := rfl
            have hk98 : (0 : Int32).toInt = 0 := rfl
            obtain ⟨y99, m100⟩ : ∃ x : Int32, oI (f91 h0) 13 = x := ⟨_, rfl⟩
            have b101 : (0 : Int) ≤ y99.toInt ∧ y99.toInt ≤ 400 := by rw [← m100]; exact th_iv hW rh0 (by decide) (by decide) rfl
            obtain ⟨y102, m103⟩ : ∃ x : Int32, oI (f91 h0) 14 = x := ⟨_, rfl⟩
            have b104 : (0 : Int) ≤ y102.toInt ∧ y102.toInt ≤ 400 := by rw [← m103]; exact th_iv hW rh0 (by decide) (by decide) rfl
            obtain ⟨y105, m106⟩ : ∃ x : Int32, oI (f91 h0) 15 = x := ⟨_, rfl⟩
            have b107 : (0 : Int) ≤ y105.toInt ∧ y105.toInt ≤ 3 := by rw [← m106]; exact th_iv hW rh0 (by decide) (by decide) rfl
            obtain ⟨y108, m109⟩ : ∃ x : Int32, oI (f91 h0) 18 = x := ⟨_, rfl⟩
            have b110 : (0 : Int) ≤ y108.toInt ∧ y108.toInt ≤ 1 := by rw [← m109]; exact th_iv hW rh0 (by decide) (by decide) rfl
            obtain ⟨y111, m112⟩ : ∃ x : Int32, oI (f91 h0) 21 = x := ⟨_, rfl⟩
            have b113 : (0 : Int) ≤ y111.toInt ∧ y111.toInt ≤ 400 := by rw [← m112]; exact th_iv hW rh0 (by decide) (by decide) rfl
            obtain ⟨y114, m115⟩ : ∃ x : Int64, oJ (f91 h0) 16 = x := ⟨_, rfl⟩
            simp only [((fm_I g94 rh0 rfl).trans ((fm_I g14 rh0 rfl).trans ((fm_I g5 rh0 rfl).trans mF12))), ((fm_I g14 rh0 rfl).trans ((fm_I g5 rh0 rfl).trans mF12)), m100, ((fm_I g14 rh0 rfl).trans ((fm_I g5 rh0 rfl).trans mF13)), m103, ((fm_I g14 rh0 rfl).trans ((fm_I g5 rh0 rfl).trans mF14)), m106, m19, m109, ((fm_I g14 rh0 rfl).trans ((fm_I g5 rh0 rfl).trans mF18)), m112, ((fm_I g14 rh0 rfl).trans ((fm_I g5 rh0 rfl).trans mF21)), ((fm_I g94 rh0 rfl).trans ((fm_I g14 rh0 rfl).trans ((fm_I g5 rh0 rfl).trans mF27))), ((fm_I g14 rh0 rfl).trans ((fm_I g5 rh0 rfl).trans mF27)), m115, m84] at h95
            refine lv_iconst (v := 3) hx hb dX12_readPart_88 (by decide) ?_
            exact e_I E hW rfl ⟨⟨_, rfl, (by have hk : (3 : Int32).toInt = 3 := rfl; first | decide | omega)⟩, hF, (by intro r hr; cases hr; have hkr : (3 : Int32).toInt = 3 := rfl; simp only [((fm_I g94 rh0 rfl).trans ((fm_I g14 rh0 rfl).trans ((fm_I g5 rh0 rfl).trans mF12))), mF12, m100, mF13, m103, mF14, m106, mF15, m109, mF18, m112, mF21, ((fm_I g94 rh0 rfl).trans ((fm_I g14 rh0 rfl).trans ((fm_I g5 rh0 rfl).trans mF27))), mF27, m115, mW, and_true, true_and, true_or, or_true, false_or, or_false] <;> omega), (by intro r hr; cases hr; have hk : (3 : Int32).toInt = 3 := rfl; rw [hk]; exact h96)⟩ dX12_readPart_89
          · exfalso; omega
        · refine lv_iload_n hx hb dX12_readPart_53 rfl (lv_at hl 0 rfl) ?_
          refine q_if_eq (X := 0) (tgt := 61) hx hb dX12_readPart_54 (by decide) rfl (fun _ => ?_) (fun c => absurd c (by decide))
          refine lv_iconst (v := 0) hx hb dX12_readPart_61 (by decide) ?_
          refine lv_iload_n hx hb dX12_readPart_62 rfl (lv_at hl 1 rfl) ?_
          refine lv_iconst (v := (-1)) hx hb dX12_readPart_63 (by decide) ?_
          refine q_icmp_ne (Y := -1) (tgt := 71) hx hb dX12_readPart_64 (by decide) rfl rfl (fun c116 => ?_) (fun c116 => ?_)
          · exfalso; omega
          · refine lv_iconst (v := 0) hx hb dX12_readPart_67 (by decide) ?_
            refine lv_goto (tgt := 72) hx hb dX12_readPart_68 (by decide) ?_
            refine lv_iload_n hx hb dX12_readPart_72 rfl (lv_at hl 0 rfl) ?_
            refine q_if_eq (X := 0) (tgt := 84) hx hb dX12_readPart_73 (by decide) rfl (fun _ => ?_) (fun c => absurd c (by decide))
            refine lv_iconst (v := 0) hx hb dX12_readPart_84 (by decide) ?_
            have hw123 := hW.2.2.2
            refine t_callV (As := [.int 0, .int 0, .int 0]) (rest := []) E hW (c_X12_leaf l G cI cJ cZ cD cR cT kp L f11 hW.2.2.2 _ gO gA ga gt 3 h0 0 0 0 rh0 (by decide) (by decide) (by have hkq117 : (0 : Int32).toInt = 0 := rfl; have hkq118 : (0 : Int32).toInt = 0 := rfl; have hkq119 : (0 : Int32).toInt = 0 := rfl; simp only [((fm_I g14 rh0 rfl).trans ((fm_I g5 rh0 rfl).trans mF12)), ((fm_I g14 rh0 rfl).trans ((fm_I g5 rh0 rfl).trans mF13)), ((fm_I g14 rh0 rfl).trans ((fm_I g5 rh0 rfl).trans mF14)), m19, ((fm_I g14 rh0 rfl).trans ((fm_I g5 rh0 rfl).trans mF21)), ((fm_I g14 rh0 rfl).trans ((fm_I g5 rh0 rfl).trans mF27)), m84, and_true, true_and, true_or, or_true, false_or, or_false] <;> omega) z17) rh0 (by decide) rfl wk_X12_leaf tw_1848 rfl ⟨Nat.le_of_ble_eq_true rfl, Nat.le_of_ble_eq_true rfl⟩ ⟨rfl, rfl⟩ hl.1 rfl (Nat.le_of_ble_eq_true rfl) dX12_readPart_85 ⟨Nat.le_of_ble_eq_true rfl, Nat.le_of_ble_eq_true rfl⟩ (fun v120 f121 H locs q122 hW => ?_)
            obtain ⟨rfl, g124, h125, h126⟩ := q122
            have hF := FM.tr hF g124 rfl
            have hk127 : (0 : Int32).toInt = 0 := rfl
            have hk128 : (0 : Int32).toInt = 0 := rfl
            have hk129 : (0 : Int32).toInt = 0 := rfl
            obtain ⟨y130, m131⟩ : ∃ x : Int32, oI (f121 h0) 13 = x := ⟨_, rfl⟩
            have b132 : (0 : Int) ≤ y130.toInt ∧ y130.toInt ≤ 400 := by rw [← m131]; exact th_iv hW rh0 (by decide) (by decide) rfl
            obtain ⟨y133, m134⟩ : ∃ x : Int32, oI (f121 h0) 14 = x := ⟨_, rfl⟩
            have b135 : (0 : Int) ≤ y133.toInt ∧ y133.toInt ≤ 400 := by rw [← m134]; exact th_iv hW rh0 (by decide) (by decide) rfl
            obtain ⟨y136, m137⟩ : ∃ x : Int32, oI (f121 h0) 15 = x := ⟨_, rfl⟩
            have b138 : (0 : Int) ≤ y136.toInt ∧ y136.toInt ≤ 3 := by rw [← m137]; exact th_iv hW rh0 (by decide) (by decide) rfl
            obtain ⟨y139, m140⟩ : ∃ x : Int32, oI (f121 h0) 18 = x := ⟨_, rfl⟩
            have b141 : (0 : Int) ≤ y139.toInt ∧ y139.toInt ≤ 1 := by rw [← m140]; exact th_iv hW rh0 (by decide) (by decide) rfl
            obtain ⟨y142, m143⟩ : ∃ x : Int32, oI (f121 h0) 21 = x := ⟨_, rfl⟩
            have b144 : (0 : Int) ≤ y142.toInt ∧ y142.toInt ≤ 400 := by rw [← m143]; exact th_iv hW rh0 (by decide) (by decide) rfl
            obtain ⟨y145, m146⟩ : ∃ x : Int64, oJ (f121 h0) 16 = x := ⟨_, rfl⟩
            simp only [((fm_I g124 rh0 rfl).trans ((fm_I g14 rh0 rfl).trans ((fm_I g5 rh0 rfl).trans mF12))), ((fm_I g14 rh0 rfl).trans ((fm_I g5 rh0 rfl).trans mF12)), m131, ((fm_I g14 rh0 rfl).trans ((fm_I g5 rh0 rfl).trans mF13)), m134, ((fm_I g14 rh0 rfl).trans ((fm_I g5 rh0 rfl).trans mF14)), m137, m19, m140, ((fm_I g14 rh0 rfl).trans ((fm_I g5 rh0 rfl).trans mF18)), m143, ((fm_I g14 rh0 rfl).trans ((fm_I g5 rh0 rfl).trans mF21)), ((fm_I g124 rh0 rfl).trans ((fm_I g14 rh0 rfl).trans ((fm_I g5 rh0 rfl).trans mF27))), ((fm_I g14 rh0 rfl).trans ((fm_I g5 rh0 rfl).trans mF27)), m146, m84] at h125
            refine lv_iconst (v := 3) hx hb dX12_readPart_88 (by decide) ?_
            exact e_I E hW rfl ⟨⟨_, rfl, (by have hk : (3 : Int32).toInt = 3 := rfl; first | decide | omega)⟩, hF, (by intro r hr; cases hr; have hkr : (3 : Int32).toInt = 3 := rfl; simp only [((fm_I g124 rh0 rfl).trans ((fm_I g14 rh0 rfl).trans ((fm_I g5 rh0 rfl).trans mF12))), mF12, m131, mF13, m134, mF14, m137, mF15, m140, mF18, m143, mF21, ((fm_I g124 rh0 rfl).trans ((fm_I g14 rh0 rfl).trans ((fm_I g5 rh0 rfl).trans mF27))), mF27, m146, mW, and_true, true_and, true_or, or_true, false_or, or_false] <;> omega), (by intro r hr; cases hr; have hk : (3 : Int32).toInt = 3 := rfl; rw [hk]; exact h126)⟩ dX12_readPart_89
      · refine lv_iconst (v := 1) hx hb dX12_readPart_41 (by decide) ?_
        refine lv_goto (tgt := 46) hx hb dX12_readPart_42 (by decide) ?_
        refine lv_istore_n (lv' := [(2, .int 1), (1, .int x15), (0, .ref h0)]) hx hb dX12_readPart_46 rfl hl (by decide) rfl (fun ls hl => ?_)
        refine lv_aload_n hx hb dX12_readPart_47 rfl (lv_at hl 2 rfl) ?_
        refine lv_iload_n hx hb dX12_readPart_48 rfl (lv_at hl 1 rfl) ?_
        refine lv_iconst (v := (-1)) hx hb dX12_readPart_49 (by decide) ?_
        refine q_icmp_ne (Y := -1) (tgt := 57) hx hb dX12_readPart_50 (by decide) rfl rfl (fun c147 => ?_) (fun c147 => ?_)
        · refine lv_iconst (v := 1) hx hb dX12_readPart_57 (by decide) ?_
          refine lv_goto (tgt := 62) hx hb dX12_readPart_58 (by decide) ?_
          refine lv_iload_n hx hb dX12_readPart_62 rfl (lv_at hl 1 rfl) ?_
          refine lv_iconst (v := (-1)) hx hb dX12_readPart_63 (by decide) ?_
          refine q_icmp_ne (Y := -1) (tgt := 71) hx hb dX12_readPart_64 (by decide) rfl rfl (fun c148 => ?_) (fun c148 => ?_)
          · refine lv_iload_n hx hb dX12_readPart_71 rfl (lv_at hl 1 rfl) ?_
            refine lv_iload_n hx hb dX12_readPart_72 rfl (lv_at hl 0 rfl) ?_
            refine q_if_eq (X := 1) (tgt := 84) hx hb dX12_readPart_73 (by decide) rfl (fun c => absurd c (by decide)) (fun _ => ?_)
            refine lv_aload_n hx hb dX12_readPart_76 rfl (lv_at hl 2 rfl) ?_
            refine fg_RX12_202 E hW rh0 dX12_readPart_77 (fun y149 m150 => ?_)
            obtain rfl : pW = y149 := (m84).symm.trans m150
            refine q_l2iC hx hb dX12_readPart_80 rfl (fun x151 h152 => ?_)
            refine lv_goto (tgt := 85) hx hb dX12_readPart_81 (by decide) ?_
            have hw157 := hW.2.2.2
            refine t_callV (As := [.int 1, .int x15, .int x151]) (rest := []) E hW (c_X12_leaf l G cI cJ cZ cD cR cT kp L f11 hW.2.2.2 _ gO gA ga gt 3 h0 1 x15 x151 rh0 (by decide) (by omega) (by have hkq153 : (1 : Int32).toInt = 1 := rfl; simp only [((fm_I g14 rh0 rfl).trans ((fm_I g5 rh0 rfl).trans mF12)), ((fm_I g14 rh0 rfl).trans ((fm_I g5 rh0 rfl).trans mF13)), ((fm_I g14 rh0 rfl).trans ((fm_I g5 rh0 rfl).trans mF14)), m19, ((fm_I g14 rh0 rfl).trans ((fm_I g5 rh0 rfl).trans mF21)), ((fm_I g14 rh0 rfl).trans ((fm_I g5 rh0 rfl).trans mF27)), m150, and_true, true_and, true_or, or_true, false_or, or_false] <;> omega) z17) rh0 (by decide) rfl wk_X12_leaf tw_1848 rfl ⟨Nat.le_of_ble_eq_true rfl, Nat.le_of_ble_eq_true rfl⟩ ⟨rfl, rfl⟩ hl.1 rfl (Nat.le_of_ble_eq_true rfl) dX12_readPart_85 ⟨Nat.le_of_ble_eq_true rfl, Nat.le_of_ble_eq_true rfl⟩ (fun v154 f155 H locs q156 hW => ?_)
            obtain ⟨rfl, g158, h159, h160⟩ := q156
            have hF := FM.tr hF g158 rfl
            have hk161 : (1 : Int32).toInt = 1 := rfl
            obtain ⟨y162, m163⟩ : ∃ x : Int32, oI (f155 h0) 13 = x := ⟨_, rfl⟩
            have b164 : (0 : Int) ≤ y162.toInt ∧ y162.toInt ≤ 400 := by rw [← m163]; exact th_iv hW rh0 (by decide) (by decide) rfl
            obtain ⟨y165, m166⟩ : ∃ x : Int32, oI (f155 h0) 14 = x := ⟨_, rfl⟩
            have b167 : (0 : Int) ≤ y165.toInt ∧ y165.toInt ≤ 400 := by rw [← m166]; exact th_iv hW rh0 (by decide) (by decide) rfl
            obtain ⟨y168, m169⟩ : ∃ x : Int32, oI (f155 h0) 15 = x := ⟨_, rfl⟩
            have b170 : (0 : Int) ≤ y168.toInt ∧ y168.toInt ≤ 3 := by rw [← m169]; exact th_iv hW rh0 (by decide) (by decide) rfl
            obtain ⟨y171, m172⟩ : ∃ x : Int32, oI (f155 h0) 18 = x := ⟨_, rfl⟩
            have b173 : (0 : Int) ≤ y171.toInt ∧ y171.toInt ≤ 1 := by rw [← m172]; exact th_iv hW rh0 (by decide) (by decide) rfl
            obtain ⟨y174, m175⟩ : ∃ x : Int32, oI (f155 h0) 21 = x := ⟨_, rfl⟩
            have b176 : (0 : Int) ≤ y174.toInt ∧ y174.toInt ≤ 400 := by rw [← m175]; exact th_iv hW rh0 (by decide) (by decide) rfl
            obtain ⟨y177, m178⟩ : ∃ x : Int64, oJ (f155 h0) 16 = x := ⟨_, rfl⟩
            simp only [((fm_I g158 rh0 rfl).trans ((fm_I g14 rh0 rfl).trans ((fm_I g5 rh0 rfl).trans mF12))), ((fm_I g14 rh0 rfl).trans ((fm_I g5 rh0 rfl).trans mF12)), m163, ((fm_I g14 rh0 rfl).trans ((fm_I g5 rh0 rfl).trans mF13)), m166, ((fm_I g14 rh0 rfl).trans ((fm_I g5 rh0 rfl).trans mF14)), m169, m19, m172, ((fm_I g14 rh0 rfl).trans ((fm_I g5 rh0 rfl).trans mF18)), m175, ((fm_I g14 rh0 rfl).trans ((fm_I g5 rh0 rfl).trans mF21)), ((fm_I g158 rh0 rfl).trans ((fm_I g14 rh0 rfl).trans ((fm_I g5 rh0 rfl).trans mF27))), ((fm_I g14 rh0 rfl).trans ((fm_I g5 rh0 rfl).trans mF27)), m178, m150] at h159
            refine lv_iconst (v := 3) hx hb dX12_readPart_88 (by decide) ?_
            exact e_I E hW rfl ⟨⟨_, rfl, (by have hk : (3 : Int32).toInt = 3 := rfl; first | decide | omega)⟩, hF, (by intro r hr; cases hr; have hkr : (3 : Int32).toInt = 3 := rfl; simp only [((fm_I g158 rh0 rfl).trans ((fm_I g14 rh0 rfl).trans ((fm_I g5 rh0 rfl).trans mF12))), mF12, m163, mF13, m166, mF14, m169, mF15, m172, mF18, m175, mF21, ((fm_I g158 rh0 rfl).trans ((fm_I g14 rh0 rfl).trans ((fm_I g5 rh0 rfl).trans mF27))), mF27, m178, mW, and_true, true_and, true_or, or_true, false_or, or_false] <;> omega), (by intro r hr; cases hr; have hk : (3 : Int32).toInt = 3 := rfl; rw [hk]; exact h160)⟩ dX12_readPart_89
          · exfalso; omega
        · refine lv_iload_n hx hb dX12_readPart_53 rfl (lv_at hl 0 rfl) ?_
          refine q_if_eq (X := 1) (tgt := 61) hx hb dX12_readPart_54 (by decide) rfl (fun c => absurd c (by decide)) (fun _ => ?_)
          refine lv_iconst (v := 1) hx hb dX12_readPart_57 (by decide) ?_
          refine lv_goto (tgt := 62) hx hb dX12_readPart_58 (by decide) ?_
          refine lv_iload_n hx hb dX12_readPart_62 rfl (lv_at hl 1 rfl) ?_
          refine lv_iconst (v := (-1)) hx hb dX12_readPart_63 (by decide) ?_
          refine q_icmp_ne (Y := -1) (tgt := 71) hx hb dX12_readPart_64 (by decide) rfl rfl (fun c179 => ?_) (fun c179 => ?_)
          · exfalso; omega
          · refine lv_iconst (v := 0) hx hb dX12_readPart_67 (by decide) ?_
            refine lv_goto (tgt := 72) hx hb dX12_readPart_68 (by decide) ?_
            refine lv_iload_n hx hb dX12_readPart_72 rfl (lv_at hl 0 rfl) ?_
            refine q_if_eq (X := 1) (tgt := 84) hx hb dX12_readPart_73 (by decide) rfl (fun c => absurd c (by decide)) (fun _ => ?_)
            refine lv_aload_n hx hb dX12_readPart_76 rfl (lv_at hl 2 rfl) ?_
            refine fg_RX12_202 E hW rh0 dX12_readPart_77 (fun y180 m181 => ?_)
            obtain rfl : pW = y180 := (m84).symm.trans m181
            refine q_l2iC hx hb dX12_readPart_80 rfl (fun x182 h183 => ?_)
            refine lv_goto (tgt := 85) hx hb dX12_readPart_81 (by decide) ?_
            have hw189 := hW.2.2.2
            refine t_callV (As := [.int 1, .int 0, .int x182]) (rest := []) E hW (c_X12_leaf l G cI cJ cZ cD cR cT kp L f11 hW.2.2.2 _ gO gA ga gt 3 h0 1 0 x182 rh0 (by decide) (by decide) (by have hkq184 : (1 : Int32).toInt = 1 := rfl; have hkq185 : (0 : Int32).toInt = 0 := rfl; simp only [((fm_I g14 rh0 rfl).trans ((fm_I g5 rh0 rfl).trans mF12)), ((fm_I g14 rh0 rfl).trans ((fm_I g5 rh0 rfl).trans mF13)), ((fm_I g14 rh0 rfl).trans ((fm_I g5 rh0 rfl).trans mF14)), m19, ((fm_I g14 rh0 rfl).trans ((fm_I g5 rh0 rfl).trans mF21)), ((fm_I g14 rh0 rfl).trans ((fm_I g5 rh0 rfl).trans mF27)), m181, and_true, true_and, true_or, or_true, false_or, or_false] <;> omega) z17) rh0 (by decide) rfl wk_X12_leaf tw_1848 rfl ⟨Nat.le_of_ble_eq_true rfl, Nat.le_of_ble_eq_true rfl⟩ ⟨rfl, rfl⟩ hl.1 rfl (Nat.le_of_ble_eq_true rfl) dX12_readPart_85 ⟨Nat.le_of_ble_eq_true rfl, Nat.le_of_ble_eq_true rfl⟩ (fun v186 f187 H locs q188 hW => ?_)
            obtain ⟨rfl, g190, h191, h192⟩ := q188
            have hF := FM.tr hF g190 rfl
            have hk193 : (1 : Int32).toInt = 1 := rfl
            have hk194 : (0 : Int32).toInt = 0 := rfl
            obtain ⟨y195, m196⟩ : ∃ x : Int32, oI (f187 h0) 13 = x := ⟨_, rfl⟩
            have b197 : (0 : Int) ≤ y195.toInt ∧ y195.toInt ≤ 400 := by rw [← m196]; exact th_iv hW rh0 (by decide) (by decide) rfl
            obtain ⟨y198, m199⟩ : ∃ x : Int32, oI (f187 h0) 14 = x := ⟨_, rfl⟩
            have b200 : (0 : Int) ≤ y198.toInt ∧ y198.toInt ≤ 400 := by rw [← m199]; exact th_iv hW rh0 (by decide) (by decide) rfl
            obtain ⟨y201, m202⟩ : ∃ x : Int32, oI (f187 h0) 15 = x := ⟨_, rfl⟩
            have b203 : (0 : Int) ≤ y201.toInt ∧ y201.toInt ≤ 3 := by rw [← m202]; exact th_iv hW rh0 (by decide) (by decide) rfl
            obtain ⟨y204, m205⟩ : ∃ x : Int32, oI (f187 h0) 18 = x := ⟨_, rfl⟩
            have b206 : (0 : Int) ≤ y204.toInt ∧ y204.toInt ≤ 1 := by rw [← m205]; exact th_iv hW rh0 (by decide) (by decide) rfl
            obtain ⟨y207, m208⟩ : ∃ x : Int32, oI (f187 h0) 21 = x := ⟨_, rfl⟩
            have b209 : (0 : Int) ≤ y207.toInt ∧ y207.toInt ≤ 400 := by rw [← m208]; exact th_iv hW rh0 (by decide) (by decide) rfl
            obtain ⟨y210, m211⟩ : ∃ x : Int64, oJ (f187 h0) 16 = x := ⟨_, rfl⟩
            simp only [((fm_I g190 rh0 rfl).trans ((fm_I g14 rh0 rfl).trans ((fm_I g5 rh0 rfl).trans mF12))), ((fm_I g14 rh0 rfl).trans ((fm_I g5 rh0 rfl).trans mF12)), m196, ((fm_I g14 rh0 rfl).trans ((fm_I g5 rh0 rfl).trans mF13)), m199, ((fm_I g14 rh0 rfl).trans ((fm_I g5 rh0 rfl).trans mF14)), m202, m19, m205, ((fm_I g14 rh0 rfl).trans ((fm_I g5 rh0 rfl).trans mF18)), m208, ((fm_I g14 rh0 rfl).trans ((fm_I g5 rh0 rfl).trans mF21)), ((fm_I g190 rh0 rfl).trans ((fm_I g14 rh0 rfl).trans ((fm_I g5 rh0 rfl).trans mF27))), ((fm_I g14 rh0 rfl).trans ((fm_I g5 rh0 rfl).trans mF27)), m211, m181] at h191
            refine lv_iconst (v := 3) hx hb dX12_readPart_88 (by decide) ?_
            exact e_I E hW rfl ⟨⟨_, rfl, (by have hk : (3 : Int32).toInt = 3 := rfl; first | decide | omega)⟩, hF, (by intro r hr; cases hr; have hkr : (3 : Int32).toInt = 3 := rfl; simp only [((fm_I g190 rh0 rfl).trans ((fm_I g14 rh0 rfl).trans ((fm_I g5 rh0 rfl).trans mF12))), mF12, m196, mF13, m199, mF14, m202, mF15, m205, mF18, m208, mF21, ((fm_I g190 rh0 rfl).trans ((fm_I g14 rh0 rfl).trans ((fm_I g5 rh0 rfl).trans mF27))), mF27, m211, mW, and_true, true_and, true_or, or_true, false_or, or_false] <;> omega), (by intro r hr; cases hr; have hk : (3 : Int32).toInt = 3 := rfl; rw [hk]; exact h192)⟩ dX12_readPart_89
  · have q212 : pF15.toInt = 3 := by omega
    clear p7
    refine lv_aload_n hx hb dX12_readPart_9 rfl (lv_at hl 0 rfl) ?_
    refine lv_bipush (v := 31) hx hb dX12_readPart_10 (by decide) ?_
    have hw217 := hW.2.2.2
    refine t_callV (As := [.int 31]) (rest := []) E hW (c_X12_open l G cI cJ cZ cD cR cT kp L f2 hW.2.2.2 _ gO gA ga gt 1 h0 31 rh0 (by decide) (by have hkq213 : (31 : Int32).toInt = 31 := rfl; simp only [((fm_I g5 rh0 rfl).trans mF12), ((fm_I g5 rh0 rfl).trans mF13), ((fm_I g5 rh0 rfl).trans mF14), ((fm_I g5 rh0 rfl).trans mF15), ((fm_I g5 rh0 rfl).trans mF21), ((fm_I g5 rh0 rfl).trans mF27), ((fm_J g5 rh0 rfl).trans mW), and_true, true_and, true_or, or_true, false_or, or_false] <;> omega) z8) rh0 (by decide) rfl wk_X12_open tw_1836 rfl ⟨Nat.le_of_ble_eq_true rfl, Nat.le_of_ble_eq_true rfl⟩ ⟨rfl, rfl⟩ hl.1 rfl (Nat.le_of_ble_eq_true rfl) dX12_readPart_12 ⟨Nat.le_of_ble_eq_true rfl, Nat.le_of_ble_eq_true rfl⟩ (fun v214 f215 H locs q216 hW => ?_)
    obtain ⟨rfl, g218, h219, h220⟩ := q216
    have hF := FM.tr hF g218 rfl
    have hk221 : (31 : Int32).toInt = 31 := rfl
    obtain ⟨y222, m223⟩ : ∃ x : Int32, oI (f215 h0) 13 = x := ⟨_, rfl⟩
    have b224 : (0 : Int) ≤ y222.toInt ∧ y222.toInt ≤ 400 := by rw [← m223]; exact th_iv hW rh0 (by decide) (by decide) rfl
    obtain ⟨y225, m226⟩ : ∃ x : Int32, oI (f215 h0) 14 = x := ⟨_, rfl⟩
    have b227 : (0 : Int) ≤ y225.toInt ∧ y225.toInt ≤ 400 := by rw [← m226]; exact th_iv hW rh0 (by decide) (by decide) rfl
    obtain ⟨y228, m229⟩ : ∃ x : Int32, oI (f215 h0) 15 = x := ⟨_, rfl⟩
    have b230 : (0 : Int) ≤ y228.toInt ∧ y228.toInt ≤ 3 := by rw [← m229]; exact th_iv hW rh0 (by decide) (by decide) rfl
    obtain ⟨y231, m232⟩ : ∃ x : Int32, oI (f215 h0) 18 = x := ⟨_, rfl⟩
    have b233 : (0 : Int) ≤ y231.toInt ∧ y231.toInt ≤ 1 := by rw [← m232]; exact th_iv hW rh0 (by decide) (by decide) rfl
    obtain ⟨y234, m235⟩ : ∃ x : Int32, oI (f215 h0) 27 = x := ⟨_, rfl⟩
    have b236 : (0 : Int) ≤ y234.toInt ∧ y234.toInt ≤ 400 := by rw [← m235]; exact th_iv hW rh0 (by decide) (by decide) rfl
    obtain ⟨y237, m238⟩ : ∃ x : Int64, oJ (f215 h0) 16 = x := ⟨_, rfl⟩
    simp only [((fm_I g218 rh0 rfl).trans ((fm_I g5 rh0 rfl).trans mF12)), ((fm_I g5 rh0 rfl).trans mF12), m223, ((fm_I g5 rh0 rfl).trans mF13), m226, ((fm_I g5 rh0 rfl).trans mF14), m229, ((fm_I g5 rh0 rfl).trans mF15), m232, ((fm_I g5 rh0 rfl).trans mF18), ((fm_I g218 rh0 rfl).trans ((fm_I g5 rh0 rfl).trans mF21)), ((fm_I g5 rh0 rfl).trans mF21), m235, ((fm_I g5 rh0 rfl).trans mF27), m238, ((fm_J g5 rh0 rfl).trans mW)] at h219
    refine lv_iconst (v := 1) hx hb dX12_readPart_15 (by decide) ?_
    exact e_I E hW rfl ⟨⟨_, rfl, (by have hk : (1 : Int32).toInt = 1 := rfl; first | decide | omega)⟩, hF, (by intro r hr; cases hr; have hkr : (1 : Int32).toInt = 1 := rfl; simp only [((fm_I g218 rh0 rfl).trans ((fm_I g5 rh0 rfl).trans mF12)), mF12, m223, mF13, m226, mF14, m229, mF15, m232, mF18, ((fm_I g218 rh0 rfl).trans ((fm_I g5 rh0 rfl).trans mF21)), mF21, m235, mF27, m238, mW, and_true, true_and, true_or, or_true, false_or, or_false] <;> omega), (by intro r hr; cases hr; have hk : (1 : Int32).toInt = 1 := rfl; rw [hk]; exact h220)⟩ dX12_readPart_16
def ms_X12_readPlain : List (Nat × Nat) := [(12, 13), (12, 14), (12, 15), (12, 16), (12, 17), (12, 18), (12, 21), (12, 24), (12, 27), (12, 28), (842, 0), (843, 0), (845, 0), (846, 0)]
def po_X12_readPlain (kp : Nat → Nat) (L : List Nat) (f0 : Nat → va_E) (gO : Nat → Int32) (gA : Nat → Int32) (ga : Int) (h0 : Nat) : Option Value → (Nat → va_E) → Prop := fun v f => (∃ r : Int32, v = some (.int r) ∧ ((0 : Int) ≤ r.toInt ∧ r.toInt ≤ 3)) ∧ FM kp L ms_X12_readPlain f0 f ∧ (∀ r : Int32, v = some (.int r) → ((oI (f h0) 21).toInt + (oI (f h0) 27).toInt ≤ (oI (f h0) 13).toInt ∧ (oI (f h0) 13).toInt ≤ (oI (f h0) 14).toInt ∧ (oI (f h0) 14).toInt ≤ (oI (f0 h0) 12).toInt ∧ ((oI (f h0) 15).toInt = 0 ∨ (oI (f h0) 13).toInt < (oI (f h0) 14).toInt) ∧ (¬ (oI (f h0) 15).toInt = 1 ∨ (oJ (f h0) 16).toInt ≤ 26 ∨ (oI (f h0) 13).toInt + 2 ≤ (oI (f h0) 14).toInt) ∧ (oI (f0 h0) 21).toInt ≤ (oI (f h0) 21).toInt ∧ (oI (f0 h0) 13).toInt ≤ (oI (f h0) 13).toInt ∧ (¬ (oI (f0 h0) 18).toInt = 1 ∨ (oI (f h0) 18).toInt = 1) ∧ ((oI (f h0) 18).toInt = 1 ∨ (oI (f0 h0) 13).toInt < (oI (f h0) 13).toInt) ∧ 0 ≤ r.toInt ∧ r.toInt ≤ 3)) ∧ (∀ r : Int32, v = some (.int r) → GI f h0 gO gA ga (r.toInt))
set_option maxHeartbeats 4000000 in
set_option maxRecDepth 100000 in
theorem c_X12_readPlain (l : Launch) (G : va_G) (cI cJ cZ cD cR cT : ClassId) (kp : Nat → Nat) (L : List Nat) (f0 : Nat → va_E) (hTH : TH cI cJ cZ cD cR cT kp L f0) (sz : Nat) (gO : Nat → Int32) (gA : Nat → Int32) (ga : Int) (h0 : Nat) (rh0 : RK kp L h0 12) (hq : (oI (f0 h0) 21).toInt + (oI (f0 h0) 27).toInt ≤ (oI (f0 h0) 13).toInt ∧ (oI (f0 h0) 13).toInt ≤ (oI (f0 h0) 14).toInt ∧ (oI (f0 h0) 14).toInt ≤ (oI (f0 h0) 12).toInt ∧ ((oI (f0 h0) 15).toInt = 0 ∨ (oI (f0 h0) 13).toInt < (oI (f0 h0) 14).toInt) ∧ (¬ (oI (f0 h0) 15).toInt = 1 ∨ (oJ (f0 h0) 16).toInt ≤ 26 ∨ (oI (f0 h0) 13).toInt + 2 ≤ (oI (f0 h0) 14).toInt)) (hG : GI f0 h0 gO gA ga (0)) : Met l yX12_readPlain (Cond.code yX12_readPlain cX12_readPlain 2 (some .int) :: wTab) ({ frames := 6, cells := 0, slots := 0, locals := 146 }) (va_Pc [.ref h0] (PreW G (tys6 cI cJ cZ cD cR cT) (va_pl L f0) sz)) (QT (po_X12_readPlain kp L f0 gO gA ga h0) G cI cJ cZ cD cR cT (va_A (va_pl L f0) sz) kp L) 0 0 (va_A (va_pl L f0) sz) := by
  refine metT (by decide) (Nat.le_of_ble_eq_true rfl) hTH ?_
  intro p e s m below meth c A ls E hW hl
  obtain ⟨hx, hb, -, hml, hown, hts, -, -, -⟩ := id E
  have hF : FM kp L ms_X12_readPlain f0 f0 := FM.rf
  have hl : lv_has ls 2 [(0, .ref h0)] := hl
  obtain ⟨pF12, mF12⟩ : ∃ x : Int32, oI (f0 h0) 12 = x := ⟨_, rfl⟩
  have bF12 : (0 : Int) ≤ pF12.toInt ∧ pF12.toInt ≤ 400 := by rw [← mF12]; exact th_iv hW rh0 (by decide) (by decide) rfl
  obtain ⟨pF13, mF13⟩ : ∃ x : Int32, oI (f0 h0) 13 = x := ⟨_, rfl⟩
  have bF13 : (0 : Int) ≤ pF13.toInt ∧ pF13.toInt ≤ 400 := by rw [← mF13]; exact th_iv hW rh0 (by decide) (by decide) rfl
  obtain ⟨pF14, mF14⟩ : ∃ x : Int32, oI (f0 h0) 14 = x := ⟨_, rfl⟩
  have bF14 : (0 : Int) ≤ pF14.toInt ∧ pF14.toInt ≤ 400 := by rw [← mF14]; exact th_iv hW rh0 (by decide) (by decide) rfl
  obtain ⟨pF15, mF15⟩ : ∃ x : Int32, oI (f0 h0) 15 = x := ⟨_, rfl⟩
  have bF15 : (0 : Int) ≤ pF15.toInt ∧ pF15.toInt ≤ 3 := by rw [← mF15]; exact th_iv hW rh0 (by decide) (by decide) rfl
  obtain ⟨pF18, mF18⟩ : ∃ x : Int32, oI (f0 h0) 18 = x := ⟨_, rfl⟩
  have bF18 : (0 : Int) ≤ pF18.toInt ∧ pF18.toInt ≤ 1 := by rw [← mF18]; exact th_iv hW rh0 (by decide) (by decide) rfl
  obtain ⟨pF21, mF21⟩ : ∃ x : Int32, oI (f0 h0) 21 = x := ⟨_, rfl⟩
  have bF21 : (0 : Int) ≤ pF21.toInt ∧ pF21.toInt ≤ 400 := by rw [← mF21]; exact th_iv hW rh0 (by decide) (by decide) rfl
  obtain ⟨pF24, mF24⟩ : ∃ x : Int32, oI (f0 h0) 24 = x := ⟨_, rfl⟩
  have bF24 : (0 : Int) ≤ pF24.toInt ∧ pF24.toInt ≤ 50 := by rw [← mF24]; exact th_iv hW rh0 (by decide) (by decide) rfl
  obtain ⟨pF27, mF27⟩ : ∃ x : Int32, oI (f0 h0) 27 = x := ⟨_, rfl⟩
  have bF27 : (0 : Int) ≤ pF27.toInt ∧ pF27.toInt ≤ 400 := by rw [← mF27]; exact th_iv hW rh0 (by decide) (by decide) rfl
  obtain ⟨pW, mW⟩ : ∃ x : Int64, oJ (f0 h0) 16 = x := ⟨_, rfl⟩
  simp only [mF12, mF13, mF14, mF15, mF18, mF21, mF24, mF27, mW] at hq
  obtain ⟨pR, mR⟩ : ∃ x : Nat, oR (f0 h0) 2 = x := ⟨_, rfl⟩
  have rR : RK kp L pR 822 := by rw [← mR]; exact th_ref hTH rh0 (by decide) (by decide) rfl
  refine lv_aload_n hx hb dX12_readPlain_0 rfl (lv_at hl 0 rfl) ?_
  refine lv_ldc2 (v := 14836) hx hb hown (hts _ tw_1827) dX12_readPlain_1 ?_
  have hw4 := hW.2.2.2
  refine t_callV (As := [.long 14836]) (rest := []) E hW (c_X12_isWord l G cI cJ cZ cD cR cT kp L f0 hW.2.2.2 _ h0 14836 rh0 (by decide)) rh0 (by decide) rfl wk_X12_isWord tw_1797 rfl ⟨Nat.le_of_ble_eq_true rfl, Nat.le_of_ble_eq_true rfl⟩ ⟨rfl, rfl⟩ hl.1 rfl (Nat.le_of_ble_eq_true rfl) dX12_readPlain_4 ⟨Nat.le_of_ble_eq_true rfl, Nat.le_of_ble_eq_true rfl⟩ (fun v1 f2 H locs q3 hW => ?_)
  obtain ⟨⟨x6, rfl, p7⟩, g5⟩ := q3
  simp only [mF15, mW] at p7
  have p7 : (x6.toInt = 1 ∧ pF15.toInt = 1 ∧ pW.toInt = 14836) ∨ x6.toInt = 0 := p7
  have z8 : GI f2 h0 gO gA ga (0) := gi_keep hG hw4 g5 rh0 rfl rfl (fun q => by rw [fm_I g5 rh0 rfl]; exact q)
  have hF := FM.tr hF g5 rfl
  refine q_if_eq (tgt := 23) hx hb dX12_readPlain_7 (by decide) rfl (fun c9 => ?_) (fun c9 => ?_)
  · clear p7
    refine lv_aload_n hx hb dX12_readPlain_23 rfl (lv_at hl 0 rfl) ?_
    refine lv_bipush (v := 40) hx hb dX12_readPlain_24 (by decide) ?_
    have hw13 := hW.2.2.2
    refine t_callV (As := [.int 40]) (rest := []) E hW (c_X12_isSign l G cI cJ cZ cD cR cT kp L f2 hW.2.2.2 _ h0 40 rh0 (by decide)) rh0 (by decide) rfl wk_X12_isSign tw_1832 rfl ⟨Nat.le_of_ble_eq_true rfl, Nat.le_of_ble_eq_true rfl⟩ ⟨rfl, rfl⟩ hl.1 rfl (Nat.le_of_ble_eq_true rfl) dX12_readPlain_26 ⟨Nat.le_of_ble_eq_true rfl, Nat.le_of_ble_eq_true rfl⟩ (fun v10 f11 H locs q12 hW => ?_)
    obtain ⟨⟨x15, rfl, p16⟩, g14⟩ := q12
    simp only [((fm_I g5 rh0 rfl).trans mF15), ((fm_J g5 rh0 rfl).trans mW)] at p16
    have p16 : (x15.toInt = 1 ∧ pF15.toInt = 3) ∨ x15.toInt = 0 := p16
    have z17 : GI f11 h0 gO gA ga (0) := gi_keep z8 hw13 g14 rh0 rfl rfl (fun q => by rw [fm_I g14 rh0 rfl]; exact q)
    have hF := FM.tr hF g14 rfl
    refine q_if_eq (tgt := 40) hx hb dX12_readPlain_29 (by decide) rfl (fun c18 => ?_) (fun c18 => ?_)
    · clear p16
      refine lv_aload_n hx hb dX12_readPlain_40 rfl (lv_at hl 0 rfl) ?_
      have hw22 := hW.2.2.2
      refine t_callV (As := []) (rest := []) E hW (c_X12_plainAt l G cI cJ cZ cD cR cT kp L f11 hW.2.2.2 _ h0 rh0) rh0 (by decide) rfl wk_X12_plainAt tw_1840 rfl ⟨Nat.le_of_ble_eq_true rfl, Nat.le_of_ble_eq_true rfl⟩ ⟨rfl, rfl⟩ hl.1 rfl (Nat.le_of_ble_eq_true rfl) dX12_readPlain_41 ⟨Nat.le_of_ble_eq_true rfl, Nat.le_of_ble_eq_true rfl⟩ (fun v19 f20 H locs q21 hW => ?_)
      obtain ⟨⟨x24, rfl, p25⟩, g23⟩ := q21
      simp only [((fm_I g14 rh0 rfl).trans ((fm_I g5 rh0 rfl).trans mF15)), ((fm_J g14 rh0 rfl).trans ((fm_J g5 rh0 rfl).trans mW))] at p25
      have z26 : GI f20 h0 gO gA ga (0) := gi_keep z17 hw22 g23 rh0 rfl rfl (fun q => by rw [fm_I g23 rh0 rfl]; exact q)
      have hF := FM.tr hF g23 rfl
      refine lv_istore_n (lv' := [(1, .int x24), (0, .ref h0)]) hx hb dX12_readPlain_44 rfl hl (by decide) rfl (fun ls hl => ?_)
      refine lv_iload_n hx hb dX12_readPlain_45 rfl (lv_at hl 0 rfl) ?_
      refine lv_iconst (v := (-1)) hx hb dX12_readPlain_46 (by decide) ?_
      refine q_icmp_eq (Y := -1) (tgt := 59) hx hb dX12_readPlain_47 (by decide) rfl rfl (fun c27 => ?_) (fun c27 => ?_)
      · refine lv_aload_n hx hb dX12_readPlain_59 rfl (lv_at hl 1 rfl) ?_
        have hw31 := hW.2.2.2
        refine t_callV (As := []) (rest := []) E hW (c_X12_readPart l G cI cJ cZ cD cR cT kp L f20 hW.2.2.2 _ gO gA ga 0 h0 rh0 (by simp only [((fm_I g23 rh0 rfl).trans ((fm_I g14 rh0 rfl).trans ((fm_I g5 rh0 rfl).trans mF12))), ((fm_I g23 rh0 rfl).trans ((fm_I g14 rh0 rfl).trans ((fm_I g5 rh0 rfl).trans mF13))), ((fm_I g23 rh0 rfl).trans ((fm_I g14 rh0 rfl).trans ((fm_I g5 rh0 rfl).trans mF14))), ((fm_I g23 rh0 rfl).trans ((fm_I g14 rh0 rfl).trans ((fm_I g5 rh0 rfl).trans mF15))), ((fm_I g23 rh0 rfl).trans ((fm_I g14 rh0 rfl).trans ((fm_I g5 rh0 rfl).trans mF21))), ((fm_I g23 rh0 rfl).trans ((fm_I g14 rh0 rfl).trans ((fm_I g5 rh0 rfl).trans mF27))), ((fm_J g23 rh0 rfl).trans ((fm_J g14 rh0 rfl).trans ((fm_J g5 rh0 rfl).trans mW))), and_true, true_and, true_or, or_true, false_or, or_false] <;> omega) z26) rh0 (by decide) rfl wk_X12_readPart tw_1856 rfl ⟨Nat.le_of_ble_eq_true rfl, Nat.le_of_ble_eq_true rfl⟩ ⟨rfl, rfl⟩ hl.1 rfl (Nat.le_of_ble_eq_true rfl) dX12_readPlain_60 ⟨Nat.le_of_ble_eq_true rfl, Nat.le_of_ble_eq_true rfl⟩ (fun v28 f29 H locs q30 hW => ?_)
        obtain ⟨⟨x35, rfl, p36⟩, g32, h33, h34⟩ := q30
        have hF := FM.tr hF g32 rfl
        have h33 := h33 _ rfl
        obtain ⟨y37, m38⟩ : ∃ x : Int32, oI (f29 h0) 13 = x := ⟨_, rfl⟩
        have b39 : (0 : Int) ≤ y37.toInt ∧ y37.toInt ≤ 400 := by rw [← m38]; exact th_iv hW rh0 (by decide) (by decide) rfl
        obtain ⟨y40, m41⟩ : ∃ x : Int32, oI (f29 h0) 14 = x := ⟨_, rfl⟩
        have b42 : (0 : Int) ≤ y40.toInt ∧ y40.toInt ≤ 400 := by rw [← m41]; exact th_iv hW rh0 (by decide) (by decide) rfl
        obtain ⟨y43, m44⟩ : ∃ x : Int32, oI (f29 h0) 15 = x := ⟨_, rfl⟩
        have b45 : (0 : Int) ≤ y43.toInt ∧ y43.toInt ≤ 3 := by rw [← m44]; exact th_iv hW rh0 (by decide) (by decide) rfl
        obtain ⟨y46, m47⟩ : ∃ x : Int32, oI (f29 h0) 18 = x := ⟨_, rfl⟩
        have b48 : (0 : Int) ≤ y46.toInt ∧ y46.toInt ≤ 1 := by rw [← m47]; exact th_iv hW rh0 (by decide) (by decide) rfl
        obtain ⟨y49, m50⟩ : ∃ x : Int32, oI (f29 h0) 21 = x := ⟨_, rfl⟩
        have b51 : (0 : Int) ≤ y49.toInt ∧ y49.toInt ≤ 400 := by rw [← m50]; exact th_iv hW rh0 (by decide) (by decide) rfl
        obtain ⟨y52, m53⟩ : ∃ x : Int32, oI (f29 h0) 27 = x := ⟨_, rfl⟩
        have b54 : (0 : Int) ≤ y52.toInt ∧ y52.toInt ≤ 400 := by rw [← m53]; exact th_iv hW rh0 (by decide) (by decide) rfl
        obtain ⟨y55, m56⟩ : ∃ x : Int64, oJ (f29 h0) 16 = x := ⟨_, rfl⟩
        simp only [((fm_I g32 rh0 rfl).trans ((fm_I g23 rh0 rfl).trans ((fm_I g14 rh0 rfl).trans ((fm_I g5 rh0 rfl).trans mF12)))), ((fm_I g23 rh0 rfl).trans ((fm_I g14 rh0 rfl).trans ((fm_I g5 rh0 rfl).trans mF12))), m38, ((fm_I g23 rh0 rfl).trans ((fm_I g14 rh0 rfl).trans ((fm_I g5 rh0 rfl).trans mF13))), m41, ((fm_I g23 rh0 rfl).trans ((fm_I g14 rh0 rfl).trans ((fm_I g5 rh0 rfl).trans mF14))), m44, ((fm_I g23 rh0 rfl).trans ((fm_I g14 rh0 rfl).trans ((fm_I g5 rh0 rfl).trans mF15))), m47, ((fm_I g23 rh0 rfl).trans ((fm_I g14 rh0 rfl).trans ((fm_I g5 rh0 rfl).trans mF18))), m50, ((fm_I g23 rh0 rfl).trans ((fm_I g14 rh0 rfl).trans ((fm_I g5 rh0 rfl).trans mF21))), m53, ((fm_I g23 rh0 rfl).trans ((fm_I g14 rh0 rfl).trans ((fm_I g5 rh0 rfl).trans mF27))), m56, ((fm_J g23 rh0 rfl).trans ((fm_J g14 rh0 rfl).trans ((fm_J g5 rh0 rfl).trans mW)))] at h33
        have h34 := h34 _ rfl
        exact e_I E hW rfl ⟨⟨_, rfl, (by first | omega | trivial)⟩, hF, (by intro r hr; cases hr; simp only [((fm_I g32 rh0 rfl).trans ((fm_I g23 rh0 rfl).trans ((fm_I g14 rh0 rfl).trans ((fm_I g5 rh0 rfl).trans mF12)))), mF12, m38, mF13, m41, mF14, m44, mF15, m47, mF18, m50, mF21, m53, mF27, m56, mW, and_true, true_and, true_or, or_true, false_or, or_false] <;> omega), (by intro r hr; cases hr; exact h34)⟩ dX12_readPlain_63
      · refine lv_aload_n hx hb dX12_readPlain_50 rfl (lv_at hl 1 rfl) ?_
        refine lv_iconst (v := 1) hx hb dX12_readPlain_51 (by decide) ?_
        refine lv_iload_n hx hb dX12_readPlain_52 rfl (lv_at hl 0 rfl) ?_
        refine lv_iconst (v := 0) hx hb dX12_readPlain_53 (by decide) ?_
        have hw62 := hW.2.2.2
        refine t_callV (As := [.int 1, .int x24, .int 0]) (rest := []) E hW (c_X12_leaf l G cI cJ cZ cD cR cT kp L f20 hW.2.2.2 _ gO gA ga 0 2 h0 1 x24 0 rh0 (by decide) (by omega) (by have hkq57 : (1 : Int32).toInt = 1 := rfl; have hkq58 : (0 : Int32).toInt = 0 := rfl; simp only [((fm_I g23 rh0 rfl).trans ((fm_I g14 rh0 rfl).trans ((fm_I g5 rh0 rfl).trans mF12))), ((fm_I g23 rh0 rfl).trans ((fm_I g14 rh0 rfl).trans ((fm_I g5 rh0 rfl).trans mF13))), ((fm_I g23 rh0 rfl).trans ((fm_I g14 rh0 rfl).trans ((fm_I g5 rh0 rfl).trans mF14))), ((fm_I g23 rh0 rfl).trans ((fm_I g14 rh0 rfl).trans ((fm_I g5 rh0 rfl).trans mF15))), ((fm_I g23 rh0 rfl).trans ((fm_I g14 rh0 rfl).trans ((fm_I g5 rh0 rfl).trans mF21))), ((fm_I g23 rh0 rfl).trans ((fm_I g14 rh0 rfl).trans ((fm_I g5 rh0 rfl).trans mF27))), ((fm_J g23 rh0 rfl).trans ((fm_J g14 rh0 rfl).trans ((fm_J g5 rh0 rfl).trans mW))), and_true, true_and, true_or, or_true, false_or, or_false] <;> omega) z26) rh0 (by decide) rfl wk_X12_leaf tw_1848 rfl ⟨Nat.le_of_ble_eq_true rfl, Nat.le_of_ble_eq_true rfl⟩ ⟨rfl, rfl⟩ hl.1 rfl (Nat.le_of_ble_eq_true rfl) dX12_readPlain_54 ⟨Nat.le_of_ble_eq_true rfl, Nat.le_of_ble_eq_true rfl⟩ (fun v59 f60 H locs q61 hW => ?_)
        obtain ⟨rfl, g63, h64, h65⟩ := q61
        have hF := FM.tr hF g63 rfl
        have hk66 : (1 : Int32).toInt = 1 := rfl
        have hk67 : (0 : Int32).toInt = 0 := rfl
        obtain ⟨y68, m69⟩ : ∃ x : Int32, oI (f60 h0) 13 = x := ⟨_, rfl⟩
        have b70 : (0 : Int) ≤ y68.toInt ∧ y68.toInt ≤ 400 := by rw [← m69]; exact th_iv hW rh0 (by decide) (by decide) rfl
        obtain ⟨y71, m72⟩ : ∃ x : Int32, oI (f60 h0) 14 = x := ⟨_, rfl⟩
        have b73 : (0 : Int) ≤ y71.toInt ∧ y71.toInt ≤ 400 := by rw [← m72]; exact th_iv hW rh0 (by decide) (by decide) rfl
        obtain ⟨y74, m75⟩ : ∃ x : Int32, oI (f60 h0) 15 = x := ⟨_, rfl⟩
        have b76 : (0 : Int) ≤ y74.toInt ∧ y74.toInt ≤ 3 := by rw [← m75]; exact th_iv hW rh0 (by decide) (by decide) rfl
        obtain ⟨y77, m78⟩ : ∃ x : Int32, oI (f60 h0) 18 = x := ⟨_, rfl⟩
        have b79 : (0 : Int) ≤ y77.toInt ∧ y77.toInt ≤ 1 := by rw [← m78]; exact th_iv hW rh0 (by decide) (by decide) rfl
        obtain ⟨y80, m81⟩ : ∃ x : Int32, oI (f60 h0) 21 = x := ⟨_, rfl⟩
        have b82 : (0 : Int) ≤ y80.toInt ∧ y80.toInt ≤ 400 := by rw [← m81]; exact th_iv hW rh0 (by decide) (by decide) rfl
        obtain ⟨y83, m84⟩ : ∃ x : Int64, oJ (f60 h0) 16 = x := ⟨_, rfl⟩
        simp only [((fm_I g63 rh0 rfl).trans ((fm_I g23 rh0 rfl).trans ((fm_I g14 rh0 rfl).trans ((fm_I g5 rh0 rfl).trans mF12)))), ((fm_I g23 rh0 rfl).trans ((fm_I g14 rh0 rfl).trans ((fm_I g5 rh0 rfl).trans mF12))), m69, ((fm_I g23 rh0 rfl).trans ((fm_I g14 rh0 rfl).trans ((fm_I g5 rh0 rfl).trans mF13))), m72, ((fm_I g23 rh0 rfl).trans ((fm_I g14 rh0 rfl).trans ((fm_I g5 rh0 rfl).trans mF14))), m75, ((fm_I g23 rh0 rfl).trans ((fm_I g14 rh0 rfl).trans ((fm_I g5 rh0 rfl).trans mF15))), m78, ((fm_I g23 rh0 rfl).trans ((fm_I g14 rh0 rfl).trans ((fm_I g5 rh0 rfl).trans mF18))), m81, ((fm_I g23 rh0 rfl).trans ((fm_I g14 rh0 rfl).trans ((fm_I g5 rh0 rfl).trans mF21))), ((fm_I g63 rh0 rfl).trans ((fm_I g23 rh0 rfl).trans ((fm_I g14 rh0 rfl).trans ((fm_I g5 rh0 rfl).trans mF27)))), ((fm_I g23 rh0 rfl).trans ((fm_I g14 rh0 rfl).trans ((fm_I g5 rh0 rfl).trans mF27))), m84, ((fm_J g23 rh0 rfl).trans ((fm_J g14 rh0 rfl).trans ((fm_J g5 rh0 rfl).trans mW)))] at h64
        refine lv_iconst (v := 2) hx hb dX12_readPlain_57 (by decide) ?_
        exact e_I E hW rfl ⟨⟨_, rfl, (by have hk : (2 : Int32).toInt = 2 := rfl; first | decide | omega)⟩, hF, (by intro r hr; cases hr; have hkr : (2 : Int32).toInt = 2 := rfl; simp only [((fm_I g63 rh0 rfl).trans ((fm_I g23 rh0 rfl).trans ((fm_I g14 rh0 rfl).trans ((fm_I g5 rh0 rfl).trans mF12)))), mF12, m69, mF13, m72, mF14, m75, mF15, m78, mF18, m81, mF21, ((fm_I g63 rh0 rfl).trans ((fm_I g23 rh0 rfl).trans ((fm_I g14 rh0 rfl).trans ((fm_I g5 rh0 rfl).trans mF27)))), mF27, m84, mW, and_true, true_and, true_or, or_true, false_or, or_false] <;> omega), (by intro r hr; cases hr; have hk : (2 : Int32).toInt = 2 := rfl; rw [hk]; exact h65)⟩ dX12_readPlain_58
    · have q85 : pF15.toInt = 3 := by omega
      clear p16
      refine lv_aload_n hx hb dX12_readPlain_32 rfl (lv_at hl 0 rfl) ?_
      refine lv_bipush (v := 30) hx hb dX12_readPlain_33 (by decide) ?_
      have hw90 := hW.2.2.2
      refine t_callV (As := [.int 30]) (rest := []) E hW (c_X12_open l G cI cJ cZ cD cR cT kp L f11 hW.2.2.2 _ gO gA ga 0 0 h0 30 rh0 (by decide) (by have hkq86 : (30 : Int32).toInt = 30 := rfl; simp only [((fm_I g14 rh0 rfl).trans ((fm_I g5 rh0 rfl).trans mF12)), ((fm_I g14 rh0 rfl).trans ((fm_I g5 rh0 rfl).trans mF13)), ((fm_I g14 rh0 rfl).trans ((fm_I g5 rh0 rfl).trans mF14)), ((fm_I g14 rh0 rfl).trans ((fm_I g5 rh0 rfl).trans mF15)), ((fm_I g14 rh0 rfl).trans ((fm_I g5 rh0 rfl).trans mF21)), ((fm_I g14 rh0 rfl).trans ((fm_I g5 rh0 rfl).trans mF27)), ((fm_J g14 rh0 rfl).trans ((fm_J g5 rh0 rfl).trans mW)), and_true, true_and, true_or, or_true, false_or, or_false] <;> omega) z17) rh0 (by decide) rfl wk_X12_open tw_1836 rfl ⟨Nat.le_of_ble_eq_true rfl, Nat.le_of_ble_eq_true rfl⟩ ⟨rfl, rfl⟩ hl.1 rfl (Nat.le_of_ble_eq_true rfl) dX12_readPlain_35 ⟨Nat.le_of_ble_eq_true rfl, Nat.le_of_ble_eq_true rfl⟩ (fun v87 f88 H locs q89 hW => ?_)
      obtain ⟨rfl, g91, h92, h93⟩ := q89
      have hF := FM.tr hF g91 rfl
      have hk94 : (30 : Int32).toInt = 30 := rfl
      obtain ⟨y95, m96⟩ : ∃ x : Int32, oI (f88 h0) 13 = x := ⟨_, rfl⟩
      have b97 : (0 : Int) ≤ y95.toInt ∧ y95.toInt ≤ 400 := by rw [← m96]; exact th_iv hW rh0 (by decide) (by decide) rfl
      obtain ⟨y98, m99⟩ : ∃ x : Int32, oI (f88 h0) 14 = x := ⟨_, rfl⟩
      have b100 : (0 : Int) ≤ y98.toInt ∧ y98.toInt ≤ 400 := by rw [← m99]; exact th_iv hW rh0 (by decide) (by decide) rfl
      obtain ⟨y101, m102⟩ : ∃ x : Int32, oI (f88 h0) 15 = x := ⟨_, rfl⟩
      have b103 : (0 : Int) ≤ y101.toInt ∧ y101.toInt ≤ 3 := by rw [← m102]; exact th_iv hW rh0 (by decide) (by decide) rfl
      obtain ⟨y104, m105⟩ : ∃ x : Int32, oI (f88 h0) 18 = x := ⟨_, rfl⟩
      have b106 : (0 : Int) ≤ y104.toInt ∧ y104.toInt ≤ 1 := by rw [← m105]; exact th_iv hW rh0 (by decide) (by decide) rfl
      obtain ⟨y107, m108⟩ : ∃ x : Int32, oI (f88 h0) 27 = x := ⟨_, rfl⟩
      have b109 : (0 : Int) ≤ y107.toInt ∧ y107.toInt ≤ 400 := by rw [← m108]; exact th_iv hW rh0 (by decide) (by decide) rfl
      obtain ⟨y110, m111⟩ : ∃ x : Int64, oJ (f88 h0) 16 = x := ⟨_, rfl⟩
      simp only [((fm_I g91 rh0 rfl).trans ((fm_I g14 rh0 rfl).trans ((fm_I g5 rh0 rfl).trans mF12))), ((fm_I g14 rh0 rfl).trans ((fm_I g5 rh0 rfl).trans mF12)), m96, ((fm_I g14 rh0 rfl).trans ((fm_I g5 rh0 rfl).trans mF13)), m99, ((fm_I g14 rh0 rfl).trans ((fm_I g5 rh0 rfl).trans mF14)), m102, ((fm_I g14 rh0 rfl).trans ((fm_I g5 rh0 rfl).trans mF15)), m105, ((fm_I g14 rh0 rfl).trans ((fm_I g5 rh0 rfl).trans mF18)), ((fm_I g91 rh0 rfl).trans ((fm_I g14 rh0 rfl).trans ((fm_I g5 rh0 rfl).trans mF21))), ((fm_I g14 rh0 rfl).trans ((fm_I g5 rh0 rfl).trans mF21)), m108, ((fm_I g14 rh0 rfl).trans ((fm_I g5 rh0 rfl).trans mF27)), m111, ((fm_J g14 rh0 rfl).trans ((fm_J g5 rh0 rfl).trans mW))] at h92
      refine lv_iconst (v := 0) hx hb dX12_readPlain_38 (by decide) ?_
      exact e_I E hW rfl ⟨⟨_, rfl, (by have hk : (0 : Int32).toInt = 0 := rfl; first | decide | omega)⟩, hF, (by intro r hr; cases hr; have hkr : (0 : Int32).toInt = 0 := rfl; simp only [((fm_I g91 rh0 rfl).trans ((fm_I g14 rh0 rfl).trans ((fm_I g5 rh0 rfl).trans mF12))), mF12, m96, mF13, m99, mF14, m102, mF15, m105, mF18, ((fm_I g91 rh0 rfl).trans ((fm_I g14 rh0 rfl).trans ((fm_I g5 rh0 rfl).trans mF21))), mF21, m108, mF27, m111, mW, and_true, true_and, true_or, or_true, false_or, or_false] <;> omega), (by intro r hr; cases hr; have hk : (0 : Int32).toInt = 0 := rfl; rw [hk]; exact h93)⟩ dX12_readPlain_39
  · have q112 : pF15.toInt = 1 ∧ pW.toInt = 14836 := by omega
    clear p7
    refine lv_aload_n hx hb dX12_readPlain_10 rfl (lv_at hl 0 rfl) ?_
    refine lv_bipush (v := 27) hx hb dX12_readPlain_11 (by decide) ?_
    refine lv_iconst (v := 0) hx hb dX12_readPlain_13 (by decide) ?_
    have hw118 := hW.2.2.2
    refine t_callV (As := [.int 27, .int 0]) (rest := []) E hW (c_X12_push l G cI cJ cZ cD cR cT kp L f2 hW.2.2.2 _ h0 27 0 rh0 (by decide) (by decide) (by have hkq113 : (27 : Int32).toInt = 27 := rfl; have hkq114 : (0 : Int32).toInt = 0 := rfl; simp only [((fm_I g5 rh0 rfl).trans mF27), and_true, true_and, true_or, or_true, false_or, or_false] <;> omega)) rh0 (by decide) rfl wk_X12_push tw_1828 rfl ⟨Nat.le_of_ble_eq_true rfl, Nat.le_of_ble_eq_true rfl⟩ ⟨rfl, rfl⟩ hl.1 rfl (Nat.le_of_ble_eq_true rfl) dX12_readPlain_14 ⟨Nat.le_of_ble_eq_true rfl, Nat.le_of_ble_eq_true rfl⟩ (fun v115 f116 H locs q117 hW => ?_)
    obtain ⟨rfl, g119, h120, h121⟩ := q117
    have hF := FM.tr hF g119 rfl
    have hk122 : (27 : Int32).toInt = 27 := rfl
    have hk123 : (0 : Int32).toInt = 0 := rfl
    obtain ⟨y124, m125⟩ : ∃ x : Int32, oI (f116 h0) 27 = x := ⟨_, rfl⟩
    have b126 : (0 : Int) ≤ y124.toInt ∧ y124.toInt ≤ 400 := by rw [← m125]; exact th_iv hW rh0 (by decide) (by decide) rfl
    simp only [m125, ((fm_I g5 rh0 rfl).trans mF27)] at h120
    have z127 : GI f116 h0 gO gA ga (0) := gi_push z8 hw118 g119 rh0 rfl rfl (by rw [((fm_I g5 rh0 rfl).trans mF27)]; omega) h121 (by have hk : (27 : Int32).toInt = 27 := rfl; omega)
    refine lv_aload_n hx hb dX12_readPlain_17 rfl (lv_at hl 0 rfl) ?_
    have hw131 := hW.2.2.2
    refine t_callV (As := []) (rest := []) E hW (c_X12_next l G cI cJ cZ cD cR cT kp L f116 hW.2.2.2 _ h0 rh0 (by simp only [((fm_I g119 rh0 rfl).trans ((fm_I g5 rh0 rfl).trans mF12)), ((fm_I g119 rh0 rfl).trans ((fm_I g5 rh0 rfl).trans mF14)), and_true, true_and, true_or, or_true, false_or, or_false] <;> omega)) rh0 (by decide) rfl wk_X12_next tw_1773 rfl ⟨Nat.le_of_ble_eq_true rfl, Nat.le_of_ble_eq_true rfl⟩ ⟨rfl, rfl⟩ hl.1 rfl (Nat.le_of_ble_eq_true rfl) dX12_readPlain_18 ⟨Nat.le_of_ble_eq_true rfl, Nat.le_of_ble_eq_true rfl⟩ (fun v128 f129 H locs q130 hW => ?_)
    obtain ⟨rfl, g132, h133⟩ := q130
    have z134 : GI f129 h0 gO gA ga (0) := gi_keep z127 hw131 g132 rh0 rfl rfl (fun q => by rw [fm_I g132 rh0 rfl]; exact q)
    have hF := FM.tr hF g132 rfl
    obtain ⟨y135, m136⟩ : ∃ x : Int32, oI (f129 h0) 13 = x := ⟨_, rfl⟩
    have b137 : (0 : Int) ≤ y135.toInt ∧ y135.toInt ≤ 400 := by rw [← m136]; exact th_iv hW rh0 (by decide) (by decide) rfl
    obtain ⟨y138, m139⟩ : ∃ x : Int32, oI (f129 h0) 14 = x := ⟨_, rfl⟩
    have b140 : (0 : Int) ≤ y138.toInt ∧ y138.toInt ≤ 400 := by rw [← m139]; exact th_iv hW rh0 (by decide) (by decide) rfl
    obtain ⟨y141, m142⟩ : ∃ x : Int32, oI (f129 h0) 15 = x := ⟨_, rfl⟩
    have b143 : (0 : Int) ≤ y141.toInt ∧ y141.toInt ≤ 3 := by rw [← m142]; exact th_iv hW rh0 (by decide) (by decide) rfl
    obtain ⟨y144, m145⟩ : ∃ x : Int64, oJ (f129 h0) 16 = x := ⟨_, rfl⟩
    simp only [((fm_I g132 rh0 rfl).trans ((fm_I g119 rh0 rfl).trans ((fm_I g5 rh0 rfl).trans mF12))), ((fm_I g119 rh0 rfl).trans ((fm_I g5 rh0 rfl).trans mF12)), m136, ((fm_I g119 rh0 rfl).trans ((fm_I g5 rh0 rfl).trans mF13)), m139, ((fm_I g119 rh0 rfl).trans ((fm_I g5 rh0 rfl).trans mF14)), m142, ((fm_I g119 rh0 rfl).trans ((fm_I g5 rh0 rfl).trans mF15)), m145, ((fm_J g119 rh0 rfl).trans ((fm_J g5 rh0 rfl).trans mW))] at h133
    refine lv_iconst (v := 0) hx hb dX12_readPlain_21 (by decide) ?_
    exact e_I E hW rfl ⟨⟨_, rfl, (by have hk : (0 : Int32).toInt = 0 := rfl; first | decide | omega)⟩, hF, (by intro r hr; cases hr; have hkr : (0 : Int32).toInt = 0 := rfl; simp only [((fm_I g132 rh0 rfl).trans ((fm_I g119 rh0 rfl).trans ((fm_I g5 rh0 rfl).trans mF12))), mF12, m136, mF13, m139, mF14, m142, mF15, ((fm_I g132 rh0 rfl).trans ((fm_I g119 rh0 rfl).trans ((fm_I g5 rh0 rfl).trans mF18))), mF18, ((fm_I g132 rh0 rfl).trans ((fm_I g119 rh0 rfl).trans ((fm_I g5 rh0 rfl).trans mF21))), mF21, ((fm_I g132 rh0 rfl).trans m125), mF27, m145, mW, and_true, true_and, true_or, or_true, false_or, or_false] <;> omega), (by intro r hr; cases hr; have hk : (0 : Int32).toInt = 0 := rfl; rw [hk]; exact z134)⟩ dX12_readPlain_22
def ms_X12_behindSum : List (Nat × Nat) := [(12, 13), (12, 14), (12, 15), (12, 16), (12, 17), (12, 18), (12, 21), (12, 27), (12, 28), (842, 0), (843, 0), (845, 0), (846, 0)]
def po_X12_behindSum (kp : Nat → Nat) (L : List Nat) (f0 : Nat → va_E) (gO : Nat → Int32) (gA : Nat → Int32) (ga : Int) (h0 : Nat) (u1 : Int32) : Option Value → (Nat → va_E) → Prop := fun v f => (∃ r : Int32, v = some (.int r) ∧ ((1 : Int) ≤ r.toInt ∧ r.toInt ≤ 4)) ∧ FM kp L ms_X12_behindSum f0 f ∧ (∀ r : Int32, v = some (.int r) → ((oI (f h0) 21).toInt + (oI (f h0) 27).toInt ≤ (oI (f h0) 13).toInt ∧ (oI (f h0) 13).toInt ≤ (oI (f h0) 14).toInt ∧ (oI (f h0) 14).toInt ≤ (oI (f0 h0) 12).toInt ∧ ((oI (f h0) 15).toInt = 0 ∨ (oI (f h0) 13).toInt < (oI (f h0) 14).toInt) ∧ (¬ (oI (f h0) 15).toInt = 1 ∨ (oJ (f h0) 16).toInt ≤ 26 ∨ (oI (f h0) 13).toInt + 2 ≤ (oI (f h0) 14).toInt) ∧ (oI (f0 h0) 21).toInt ≤ (oI (f h0) 21).toInt ∧ (oI (f0 h0) 13).toInt ≤ (oI (f h0) 13).toInt ∧ (¬ (oI (f0 h0) 18).toInt = 1 ∨ (oI (f h0) 18).toInt = 1) ∧ ((oI (f h0) 18).toInt = 1 ∨ (oI (f0 h0) 13).toInt < (oI (f h0) 13).toInt ∨ r.toInt = 2 ∨ r.toInt = 4) ∧ 1 ≤ r.toInt ∧ r.toInt ≤ 4)) ∧ (∀ r : Int32, v = some (.int r) → GI f h0 gO gA ga (r.toInt))
set_option maxHeartbeats 4000000 in
set_option maxRecDepth 100000 in
theorem c_X12_behindSum (l : Launch) (G : va_G) (cI cJ cZ cD cR cT : ClassId) (kp : Nat → Nat) (L : List Nat) (f0 : Nat → va_E) (hTH : TH cI cJ cZ cD cR cT kp L f0) (sz : Nat) (gO : Nat → Int32) (gA : Nat → Int32) (ga : Int) (h0 : Nat) (u1 : Int32) (rh0 : RK kp L h0 12) (pu1 : (0 : Int) ≤ u1.toInt ∧ u1.toInt ≤ 1) (hq : (oI (f0 h0) 21).toInt + (oI (f0 h0) 27).toInt ≤ (oI (f0 h0) 13).toInt ∧ (oI (f0 h0) 13).toInt ≤ (oI (f0 h0) 14).toInt ∧ (oI (f0 h0) 14).toInt ≤ (oI (f0 h0) 12).toInt ∧ ((oI (f0 h0) 15).toInt = 0 ∨ (oI (f0 h0) 13).toInt < (oI (f0 h0) 14).toInt) ∧ (¬ (oI (f0 h0) 15).toInt = 1 ∨ (oJ (f0 h0) 16).toInt ≤ 26 ∨ (oI (f0 h0) 13).toInt + 2 ≤ (oI (f0 h0) 14).toInt)) (hG : GI f0 h0 gO gA ga (3)) : Met l yX12_behindSum (Cond.code yX12_behindSum cX12_behindSum 4 (some .int) :: wTab) ({ frames := 4, cells := 0, slots := 0, locals := 101 }) (va_Pc [.ref h0, .int u1] (PreW G (tys6 cI cJ cZ cD cR cT) (va_pl L f0) sz)) (QT (po_X12_behindSum kp L f0 gO gA ga h0 u1) G cI cJ cZ cD cR cT (va_A (va_pl L f0) sz) kp L) 0 0 (va_A (va_pl L f0) sz) := by
  refine metT (by decide) (Nat.le_of_ble_eq_true rfl) hTH ?_
  intro p e s m below meth c A ls E hW hl
  obtain ⟨hx, hb, -, hml, hown, hts, -, -, -⟩ := id E
  have hF : FM kp L ms_X12_behindSum f0 f0 := FM.rf
  have hl : lv_has ls 4 [(0, .ref h0), (1, .int u1)] := hl
  obtain ⟨pF12, mF12⟩ : ∃ x : Int32, oI (f0 h0) 12 = x := ⟨_, rfl⟩
  have bF12 : (0 : Int) ≤ pF12.toInt ∧ pF12.toInt ≤ 400 := by rw [← mF12]; exact th_iv hW rh0 (by decide) (by decide) rfl
  obtain ⟨pF13, mF13⟩ : ∃ x : Int32, oI (f0 h0) 13 = x := ⟨_, rfl⟩
  have bF13 : (0 : Int) ≤ pF13.toInt ∧ pF13.toInt ≤ 400 := by rw [← mF13]; exact th_iv hW rh0 (by decide) (by decide) rfl
  obtain ⟨pF14, mF14⟩ : ∃ x : Int32, oI (f0 h0) 14 = x := ⟨_, rfl⟩
  have bF14 : (0 : Int) ≤ pF14.toInt ∧ pF14.toInt ≤ 400 := by rw [← mF14]; exact th_iv hW rh0 (by decide) (by decide) rfl
  obtain ⟨pF15, mF15⟩ : ∃ x : Int32, oI (f0 h0) 15 = x := ⟨_, rfl⟩
  have bF15 : (0 : Int) ≤ pF15.toInt ∧ pF15.toInt ≤ 3 := by rw [← mF15]; exact th_iv hW rh0 (by decide) (by decide) rfl
  obtain ⟨pF18, mF18⟩ : ∃ x : Int32, oI (f0 h0) 18 = x := ⟨_, rfl⟩
  have bF18 : (0 : Int) ≤ pF18.toInt ∧ pF18.toInt ≤ 1 := by rw [← mF18]; exact th_iv hW rh0 (by decide) (by decide) rfl
  obtain ⟨pF21, mF21⟩ : ∃ x : Int32, oI (f0 h0) 21 = x := ⟨_, rfl⟩
  have bF21 : (0 : Int) ≤ pF21.toInt ∧ pF21.toInt ≤ 400 := by rw [← mF21]; exact th_iv hW rh0 (by decide) (by decide) rfl
  obtain ⟨pF24, mF24⟩ : ∃ x : Int32, oI (f0 h0) 24 = x := ⟨_, rfl⟩
  have bF24 : (0 : Int) ≤ pF24.toInt ∧ pF24.toInt ≤ 50 := by rw [← mF24]; exact th_iv hW rh0 (by decide) (by decide) rfl
  obtain ⟨pF27, mF27⟩ : ∃ x : Int32, oI (f0 h0) 27 = x := ⟨_, rfl⟩
  have bF27 : (0 : Int) ≤ pF27.toInt ∧ pF27.toInt ≤ 400 := by rw [← mF27]; exact th_iv hW rh0 (by decide) (by decide) rfl
  obtain ⟨pW, mW⟩ : ∃ x : Int64, oJ (f0 h0) 16 = x := ⟨_, rfl⟩
  simp only [mF12, mF13, mF14, mF15, mF18, mF21, mF24, mF27, mW] at hq
  obtain ⟨pR, mR⟩ : ∃ x : Nat, oR (f0 h0) 2 = x := ⟨_, rfl⟩
  have rR : RK kp L pR 822 := by rw [← mR]; exact th_ref hTH rh0 (by decide) (by decide) rfl
  refine lv_aload_n hx hb dX12_behindSum_0 rfl (lv_at hl 0 rfl) ?_
  refine lv_bipush (v := 43) hx hb dX12_behindSum_1 (by decide) ?_
  have hw4 := hW.2.2.2
  refine t_callV (As := [.int 43]) (rest := []) E hW (c_X12_isSign l G cI cJ cZ cD cR cT kp L f0 hW.2.2.2 _ h0 43 rh0 (by decide)) rh0 (by decide) rfl wk_X12_isSign tw_1832 rfl ⟨Nat.le_of_ble_eq_true rfl, Nat.le_of_ble_eq_true rfl⟩ ⟨rfl, rfl⟩ hl.1 rfl (Nat.le_of_ble_eq_true rfl) dX12_behindSum_3 ⟨Nat.le_of_ble_eq_true rfl, Nat.le_of_ble_eq_true rfl⟩ (fun v1 f2 H locs q3 hW => ?_)
  obtain ⟨⟨x6, rfl, p7⟩, g5⟩ := q3
  simp only [mF15, mW] at p7
  have p7 : (x6.toInt = 1 ∧ pF15.toInt = 3) ∨ x6.toInt = 0 := p7
  have z8 : GI f2 h0 gO gA ga (3) := gi_keep hG hw4 g5 rh0 rfl rfl (fun q => by rw [fm_I g5 rh0 rfl]; exact q)
  have hF := FM.tr hF g5 rfl
  refine q_if_eq (tgt := 14) hx hb dX12_behindSum_6 (by decide) rfl (fun c9 => ?_) (fun c9 => ?_)
  · clear p7
    refine lv_aload_n hx hb dX12_behindSum_14 rfl (lv_at hl 0 rfl) ?_
    refine lv_bipush (v := 45) hx hb dX12_behindSum_15 (by decide) ?_
    have hw13 := hW.2.2.2
    refine t_callV (As := [.int 45]) (rest := []) E hW (c_X12_isSign l G cI cJ cZ cD cR cT kp L f2 hW.2.2.2 _ h0 45 rh0 (by decide)) rh0 (by decide) rfl wk_X12_isSign tw_1832 rfl ⟨Nat.le_of_ble_eq_true rfl, Nat.le_of_ble_eq_true rfl⟩ ⟨rfl, rfl⟩ hl.1 rfl (Nat.le_of_ble_eq_true rfl) dX12_behindSum_17 ⟨Nat.le_of_ble_eq_true rfl, Nat.le_of_ble_eq_true rfl⟩ (fun v10 f11 H locs q12 hW => ?_)
    obtain ⟨⟨x15, rfl, p16⟩, g14⟩ := q12
    simp only [((fm_I g5 rh0 rfl).trans mF15), ((fm_J g5 rh0 rfl).trans mW)] at p16
    have p16 : (x15.toInt = 1 ∧ pF15.toInt = 3) ∨ x15.toInt = 0 := p16
    have z17 : GI f11 h0 gO gA ga (3) := gi_keep z8 hw13 g14 rh0 rfl rfl (fun q => by rw [fm_I g14 rh0 rfl]; exact q)
    have hF := FM.tr hF g14 rfl
    refine q_if_eq (tgt := 28) hx hb dX12_behindSum_20 (by decide) rfl (fun c18 => ?_) (fun c18 => ?_)
    · clear p16
      refine lv_aload_n hx hb dX12_behindSum_28 rfl (lv_at hl 0 rfl) ?_
      refine lv_bipush (v := 42) hx hb dX12_behindSum_29 (by decide) ?_
      have hw22 := hW.2.2.2
      refine t_callV (As := [.int 42]) (rest := []) E hW (c_X12_isSign l G cI cJ cZ cD cR cT kp L f11 hW.2.2.2 _ h0 42 rh0 (by decide)) rh0 (by decide) rfl wk_X12_isSign tw_1832 rfl ⟨Nat.le_of_ble_eq_true rfl, Nat.le_of_ble_eq_true rfl⟩ ⟨rfl, rfl⟩ hl.1 rfl (Nat.le_of_ble_eq_true rfl) dX12_behindSum_31 ⟨Nat.le_of_ble_eq_true rfl, Nat.le_of_ble_eq_true rfl⟩ (fun v19 f20 H locs q21 hW => ?_)
      obtain ⟨⟨x24, rfl, p25⟩, g23⟩ := q21
      simp only [((fm_I g14 rh0 rfl).trans ((fm_I g5 rh0 rfl).trans mF15)), ((fm_J g14 rh0 rfl).trans ((fm_J g5 rh0 rfl).trans mW))] at p25
      have p25 : (x24.toInt = 1 ∧ pF15.toInt = 3) ∨ x24.toInt = 0 := p25
      have z26 : GI f20 h0 gO gA ga (3) := gi_keep z17 hw22 g23 rh0 rfl rfl (fun q => by rw [fm_I g23 rh0 rfl]; exact q)
      have hF := FM.tr hF g23 rfl
      refine q_if_eq (tgt := 42) hx hb dX12_behindSum_34 (by decide) rfl (fun c27 => ?_) (fun c27 => ?_)
      · clear p25
        refine lv_aload_n hx hb dX12_behindSum_42 rfl (lv_at hl 0 rfl) ?_
        refine lv_bipush (v := 47) hx hb dX12_behindSum_43 (by decide) ?_
        have hw31 := hW.2.2.2
        refine t_callV (As := [.int 47]) (rest := []) E hW (c_X12_isSign l G cI cJ cZ cD cR cT kp L f20 hW.2.2.2 _ h0 47 rh0 (by decide)) rh0 (by decide) rfl wk_X12_isSign tw_1832 rfl ⟨Nat.le_of_ble_eq_true rfl, Nat.le_of_ble_eq_true rfl⟩ ⟨rfl, rfl⟩ hl.1 rfl (Nat.le_of_ble_eq_true rfl) dX12_behindSum_45 ⟨Nat.le_of_ble_eq_true rfl, Nat.le_of_ble_eq_true rfl⟩ (fun v28 f29 H locs q30 hW => ?_)
        obtain ⟨⟨x33, rfl, p34⟩, g32⟩ := q30
        simp only [((fm_I g23 rh0 rfl).trans ((fm_I g14 rh0 rfl).trans ((fm_I g5 rh0 rfl).trans mF15))), ((fm_J g23 rh0 rfl).trans ((fm_J g14 rh0 rfl).trans ((fm_J g5 rh0 rfl).trans mW)))] at p34
        have p34 : (x33.toInt = 1 ∧ pF15.toInt = 3) ∨ x33.toInt = 0 := p34
        have z35 : GI f29 h0 gO gA ga (3) := gi_keep z26 hw31 g32 rh0 rfl rfl (fun q => by rw [fm_I g32 rh0 rfl]; exact q)
        have hF := FM.tr hF g32 rfl
        refine q_if_eq (tgt := 56) hx hb dX12_behindSum_48 (by decide) rfl (fun c36 => ?_) (fun c36 => ?_)
        · clear p34
          refine lv_iconst (v := (-1)) hx hb dX12_behindSum_56 (by decide) ?_
          refine lv_istore_n (lv' := [(2, .int (-1)), (0, .ref h0), (1, .int u1)]) hx hb dX12_behindSum_57 rfl hl (by decide) rfl (fun ls hl => ?_)
          refine lv_iload_n hx hb dX12_behindSum_58 rfl (lv_at hl 0 rfl) ?_
          refine lv_iconst (v := (-1)) hx hb dX12_behindSum_59 (by decide) ?_
          refine q_icmp_eq (X := -1) (Y := -1) (tgt := 83) hx hb dX12_behindSum_60 (by decide) rfl rfl (fun _ => ?_) (fun c => absurd c (by decide))
          refine lv_aload_n hx hb dX12_behindSum_83 rfl (lv_at hl 1 rfl) ?_
          have hw40 := hW.2.2.2
          refine t_callV (As := []) (rest := []) E hW (c_X12_inner l G cI cJ cZ cD cR cT kp L f29 hW.2.2.2 _ h0 rh0) rh0 (by decide) rfl wk_X12_inner tw_1886 rfl ⟨Nat.le_of_ble_eq_true rfl, Nat.le_of_ble_eq_true rfl⟩ ⟨rfl, rfl⟩ hl.1 rfl (Nat.le_of_ble_eq_true rfl) dX12_behindSum_84 ⟨Nat.le_of_ble_eq_true rfl, Nat.le_of_ble_eq_true rfl⟩ (fun v37 f38 H locs q39 hW => ?_)
          obtain ⟨⟨x43, rfl, p44⟩, g41, h42⟩ := q39
          have z45 : GI f38 h0 gO gA ga (3) := gi_keep z35 hw40 g41 rh0 rfl rfl (fun q => by rw [fm_I g41 rh0 rfl]; exact q)
          have hF := FM.tr hF g41 rfl
          have h42 := h42 _ rfl
          have q46 : x43.toInt = -1 ∨ 30 ≤ x43.toInt := inn_r h42
          have z47 : innI (vP f38 h0) x43.toInt (oI (f38 h0) 27).toInt := by obtain ⟨e1, -, e3⟩ := p_keep hw40 g41 rh0 rfl; rw [e1, e3]; exact h42
          refine lv_istore_n (lv' := [(3, .int x43), (2, .int (-1)), (0, .ref h0), (1, .int u1)]) hx hb dX12_behindSum_87 rfl hl (by decide) rfl (fun ls hl => ?_)
          refine lv_iload_n hx hb dX12_behindSum_88 rfl (lv_at hl 0 rfl) ?_
          refine lv_bipush (v := 31) hx hb dX12_behindSum_89 (by decide) ?_
          refine q_icmp_ne (Y := 31) (tgt := 138) hx hb dX12_behindSum_91 (by decide) rfl rfl (fun c48 => ?_) (fun c48 => ?_)
          · refine lv_iload_n hx hb dX12_behindSum_138 rfl (lv_at hl 0 rfl) ?_
            refine lv_iconst (v := (-1)) hx hb dX12_behindSum_139 (by decide) ?_
            refine q_icmp_ne (Y := -1) (tgt := 149) hx hb dX12_behindSum_140 (by decide) rfl rfl (fun c49 => ?_) (fun c49 => ?_)
            · refine lv_aload_n hx hb dX12_behindSum_149 rfl (lv_at hl 2 rfl) ?_
              have hw53 := hW.2.2.2
              refine t_callV (As := []) (rest := []) E hW (c_X12_isCompared l G cI cJ cZ cD cR cT kp L f38 hW.2.2.2 _ h0 rh0) rh0 (by decide) rfl wk_X12_isCompared tw_1890 rfl ⟨Nat.le_of_ble_eq_true rfl, Nat.le_of_ble_eq_true rfl⟩ ⟨rfl, rfl⟩ hl.1 rfl (Nat.le_of_ble_eq_true rfl) dX12_behindSum_150 ⟨Nat.le_of_ble_eq_true rfl, Nat.le_of_ble_eq_true rfl⟩ (fun v50 f51 H locs q52 hW => ?_)
              obtain ⟨⟨x55, rfl, p56⟩, g54⟩ := q52
              have z57 : innI (vP f51 h0) x43.toInt (oI (f51 h0) 27).toInt := by obtain ⟨e1, -, e3⟩ := p_keep hw53 g54 rh0 rfl; rw [e1, e3]; exact z47
              have z58 : GI f51 h0 gO gA ga (3) := gi_keep z45 hw53 g54 rh0 rfl rfl (fun q => by rw [fm_I g54 rh0 rfl]; exact q)
              have hF := FM.tr hF g54 rfl
              refine q_if_eq (tgt := 158) hx hb dX12_behindSum_153 (by decide) rfl (fun c59 => ?_) (fun c59 => ?_)
              · refine lv_aload_n hx hb dX12_behindSum_158 rfl (lv_at hl 2 rfl) ?_
                refine lv_bipush (v := 60) hx hb dX12_behindSum_159 (by decide) ?_
                have hw63 := hW.2.2.2
                refine t_callV (As := [.int 60]) (rest := []) E hW (c_X12_isSign l G cI cJ cZ cD cR cT kp L f51 hW.2.2.2 _ h0 60 rh0 (by decide)) rh0 (by decide) rfl wk_X12_isSign tw_1832 rfl ⟨Nat.le_of_ble_eq_true rfl, Nat.le_of_ble_eq_true rfl⟩ ⟨rfl, rfl⟩ hl.1 rfl (Nat.le_of_ble_eq_true rfl) dX12_behindSum_161 ⟨Nat.le_of_ble_eq_true rfl, Nat.le_of_ble_eq_true rfl⟩ (fun v60 f61 H locs q62 hW => ?_)
                obtain ⟨⟨x65, rfl, p66⟩, g64⟩ := q62
                simp only [((fm_I g54 rh0 rfl).trans ((fm_I g41 rh0 rfl).trans ((fm_I g32 rh0 rfl).trans ((fm_I g23 rh0 rfl).trans ((fm_I g14 rh0 rfl).trans ((fm_I g5 rh0 rfl).trans mF15)))))), ((fm_J g54 rh0 rfl).trans ((fm_J g41 rh0 rfl).trans ((fm_J g32 rh0 rfl).trans ((fm_J g23 rh0 rfl).trans ((fm_J g14 rh0 rfl).trans ((fm_J g5 rh0 rfl).trans mW))))))] at p66
                have p66 : (x65.toInt = 1 ∧ pF15.toInt = 3) ∨ x65.toInt = 0 := p66
                have m67 : oR (f61 h0) 2 = pR := ((fm_R g64 rh0 rfl).trans ((fm_R g54 rh0 rfl).trans ((fm_R g41 rh0 rfl).trans ((fm_R g32 rh0 rfl).trans ((fm_R g23 rh0 rfl).trans ((fm_R g14 rh0 rfl).trans ((fm_R g5 rh0 rfl).trans mR)))))))
                have m68 : oI (f61 h0) 12 = pF12 := ((fm_I g64 rh0 rfl).trans ((fm_I g54 rh0 rfl).trans ((fm_I g41 rh0 rfl).trans ((fm_I g32 rh0 rfl).trans ((fm_I g23 rh0 rfl).trans ((fm_I g14 rh0 rfl).trans ((fm_I g5 rh0 rfl).trans mF12)))))))
                have m69 : oI (f61 h0) 13 = pF13 := ((fm_I g64 rh0 rfl).trans ((fm_I g54 rh0 rfl).trans ((fm_I g41 rh0 rfl).trans ((fm_I g32 rh0 rfl).trans ((fm_I g23 rh0 rfl).trans ((fm_I g14 rh0 rfl).trans ((fm_I g5 rh0 rfl).trans mF13)))))))
                have m70 : oI (f61 h0) 14 = pF14 := ((fm_I g64 rh0 rfl).trans ((fm_I g54 rh0 rfl).trans ((fm_I g41 rh0 rfl).trans ((fm_I g32 rh0 rfl).trans ((fm_I g23 rh0 rfl).trans ((fm_I g14 rh0 rfl).trans ((fm_I g5 rh0 rfl).trans mF14)))))))
                have m71 : oI (f61 h0) 15 = pF15 := ((fm_I g64 rh0 rfl).trans ((fm_I g54 rh0 rfl).trans ((fm_I g41 rh0 rfl).trans ((fm_I g32 rh0 rfl).trans ((fm_I g23 rh0 rfl).trans ((fm_I g14 rh0 rfl).trans ((fm_I g5 rh0 rfl).trans mF15)))))))
                have m72 : oI (f61 h0) 18 = pF18 := ((fm_I g64 rh0 rfl).trans ((fm_I g54 rh0 rfl).trans ((fm_I g41 rh0 rfl).trans ((fm_I g32 rh0 rfl).trans ((fm_I g23 rh0 rfl).trans ((fm_I g14 rh0 rfl).trans ((fm_I g5 rh0 rfl).trans mF18)))))))
                have m73 : oI (f61 h0) 21 = pF21 := ((fm_I g64 rh0 rfl).trans ((fm_I g54 rh0 rfl).trans ((fm_I g41 rh0 rfl).trans ((fm_I g32 rh0 rfl).trans ((fm_I g23 rh0 rfl).trans ((fm_I g14 rh0 rfl).trans ((fm_I g5 rh0 rfl).trans mF21)))))))
                have m74 : oI (f61 h0) 24 = pF24 := ((fm_I g64 rh0 rfl).trans ((fm_I g54 rh0 rfl).trans ((fm_I g41 rh0 rfl).trans ((fm_I g32 rh0 rfl).trans ((fm_I g23 rh0 rfl).trans ((fm_I g14 rh0 rfl).trans ((fm_I g5 rh0 rfl).trans mF24)))))))
                have m75 : oI (f61 h0) 27 = pF27 := ((fm_I g64 rh0 rfl).trans ((fm_I g54 rh0 rfl).trans ((fm_I g41 rh0 rfl).trans ((fm_I g32 rh0 rfl).trans ((fm_I g23 rh0 rfl).trans ((fm_I g14 rh0 rfl).trans ((fm_I g5 rh0 rfl).trans mF27)))))))
                have m76 : oJ (f61 h0) 16 = pW := ((fm_J g64 rh0 rfl).trans ((fm_J g54 rh0 rfl).trans ((fm_J g41 rh0 rfl).trans ((fm_J g32 rh0 rfl).trans ((fm_J g23 rh0 rfl).trans ((fm_J g14 rh0 rfl).trans ((fm_J g5 rh0 rfl).trans mW)))))))
                have z77 : innI (vP f61 h0) x43.toInt (oI (f61 h0) 27).toInt := by obtain ⟨e1, -, e3⟩ := p_keep hw63 g64 rh0 rfl; rw [e1, e3]; exact z57
                have z78 : GI f61 h0 gO gA ga (3) := gi_keep z58 hw63 g64 rh0 rfl rfl (fun q => by rw [fm_I g64 rh0 rfl]; exact q)
                have hF := FM.tr hF g64 rfl
                refine q_if_eq (tgt := 172) hx hb dX12_behindSum_164 (by decide) rfl (fun c79 => ?_) (fun c79 => ?_)
                · clear p66
                  refine lv_aload_n hx hb dX12_behindSum_172 rfl (lv_at hl 2 rfl) ?_
                  refine lv_bipush (v := 62) hx hb dX12_behindSum_173 (by decide) ?_
                  have hw83 := hW.2.2.2
                  refine t_callV (As := [.int 62]) (rest := []) E hW (c_X12_isSign l G cI cJ cZ cD cR cT kp L f61 hW.2.2.2 _ h0 62 rh0 (by decide)) rh0 (by decide) rfl wk_X12_isSign tw_1832 rfl ⟨Nat.le_of_ble_eq_true rfl, Nat.le_of_ble_eq_true rfl⟩ ⟨rfl, rfl⟩ hl.1 rfl (Nat.le_of_ble_eq_true rfl) dX12_behindSum_175 ⟨Nat.le_of_ble_eq_true rfl, Nat.le_of_ble_eq_true rfl⟩ (fun v80 f81 H locs q82 hW => ?_)
                  obtain ⟨⟨x85, rfl, p86⟩, g84⟩ := q82
                  simp only [m71, m76] at p86
                  have p86 : (x85.toInt = 1 ∧ pF15.toInt = 3) ∨ x85.toInt = 0 := p86
                  have z87 : innI (vP f81 h0) x43.toInt (oI (f81 h0) 27).toInt := by obtain ⟨e1, -, e3⟩ := p_keep hw83 g84 rh0 rfl; rw [e1, e3]; exact z77
                  have z88 : GI f81 h0 gO gA ga (3) := gi_keep z78 hw83 g84 rh0 rfl rfl (fun q => by rw [fm_I g84 rh0 rfl]; exact q)
                  have hF := FM.tr hF g84 rfl
                  refine q_if_eq (tgt := 186) hx hb dX12_behindSum_178 (by decide) rfl (fun c89 => ?_) (fun c89 => ?_)
                  · clear p86
                    refine lv_bipush (v := 26) hx hb dX12_behindSum_186 (by decide) ?_
                    refine lv_istore_n (lv' := [(2, .int 26), (3, .int x43), (0, .ref h0), (1, .int u1)]) hx hb dX12_behindSum_188 rfl hl (by decide) rfl (fun ls hl => ?_)
                    refine lv_aload_n hx hb dX12_behindSum_189 rfl (lv_at hl 2 rfl) ?_
                    refine lv_iload_n hx hb dX12_behindSum_190 rfl (lv_at hl 0 rfl) ?_
                    refine lv_bipush (v := 26) hx hb dX12_behindSum_191 (by decide) ?_
                    refine q_icmp_ne (X := 26) (Y := 26) (tgt := 205) hx hb dX12_behindSum_193 (by decide) rfl rfl (fun c => absurd c (by decide)) (fun _ => ?_)
                    refine lv_aload_n hx hb dX12_behindSum_196 rfl (lv_at hl 2 rfl) ?_
                    refine lv_bipush (v := 61) hx hb dX12_behindSum_197 (by decide) ?_
                    have hw93 := hW.2.2.2
                    refine t_callV (As := [.int 61]) (rest := [.ref h0]) E hW (c_X12_isSign l G cI cJ cZ cD cR cT kp L f81 hW.2.2.2 _ h0 61 rh0 (by decide)) rh0 (by decide) rfl wk_X12_isSign tw_1832 rfl ⟨Nat.le_of_ble_eq_true rfl, Nat.le_of_ble_eq_true rfl⟩ ⟨rfl, rfl⟩ hl.1 rfl (Nat.le_of_ble_eq_true rfl) dX12_behindSum_199 ⟨Nat.le_of_ble_eq_true rfl, Nat.le_of_ble_eq_true rfl⟩ (fun v90 f91 H locs q92 hW => ?_)
                    obtain ⟨⟨x95, rfl, p96⟩, g94⟩ := q92
                    simp only [((fm_I g84 rh0 rfl).trans m71), ((fm_J g84 rh0 rfl).trans m76)] at p96
                    have p96 : (x95.toInt = 1 ∧ pF15.toInt = 3) ∨ x95.toInt = 0 := p96
                    have z97 : innI (vP f91 h0) x43.toInt (oI (f91 h0) 27).toInt := by obtain ⟨e1, -, e3⟩ := p_keep hw93 g94 rh0 rfl; rw [e1, e3]; exact z87
                    have z98 : GI f91 h0 gO gA ga (3) := gi_keep z88 hw93 g94 rh0 rfl rfl (fun q => by rw [fm_I g94 rh0 rfl]; exact q)
                    have hF := FM.tr hF g94 rfl
                    refine q_if_eq (tgt := 209) hx hb dX12_behindSum_202 (by decide) rfl (fun c99 => ?_) (fun c99 => ?_)
                    · clear p96
                      refine lv_iconst (v := 0) hx hb dX12_behindSum_209 (by decide) ?_
                      have hw104 := hW.2.2.2
                      refine t_callV (As := [.int 0]) (rest := []) E hW (c_X12_must l G cI cJ cZ cD cR cT kp L f91 hW.2.2.2 _ h0 0 rh0 (by decide) (by have hkq100 : (0 : Int32).toInt = 0 := rfl; simp only [((fm_I g94 rh0 rfl).trans ((fm_I g84 rh0 rfl).trans m68)), ((fm_I g94 rh0 rfl).trans ((fm_I g84 rh0 rfl).trans m69)), ((fm_I g94 rh0 rfl).trans ((fm_I g84 rh0 rfl).trans m70)), ((fm_I g94 rh0 rfl).trans ((fm_I g84 rh0 rfl).trans m71)), ((fm_J g94 rh0 rfl).trans ((fm_J g84 rh0 rfl).trans m76)), and_true, true_and, true_or, or_true, false_or, or_false] <;> omega)) rh0 (by decide) rfl wk_X12_must tw_1807 rfl ⟨Nat.le_of_ble_eq_true rfl, Nat.le_of_ble_eq_true rfl⟩ ⟨rfl, rfl⟩ hl.1 rfl (Nat.le_of_ble_eq_true rfl) dX12_behindSum_210 ⟨Nat.le_of_ble_eq_true rfl, Nat.le_of_ble_eq_true rfl⟩ (fun v101 f102 H locs q103 hW => ?_)
                      obtain ⟨rfl, g105, h106⟩ := q103
                      have z107 : innI (vP f102 h0) x43.toInt (oI (f102 h0) 27).toInt := by obtain ⟨e1, -, e3⟩ := p_keep hw104 g105 rh0 rfl; rw [e1, e3]; exact z97
                      have hF := FM.tr hF g105 rfl
                      have hk108 : (0 : Int32).toInt = 0 := rfl
                      obtain ⟨y109, m110⟩ : ∃ x : Int32, oI (f102 h0) 13 = x := ⟨_, rfl⟩
                      have b111 : (0 : Int) ≤ y109.toInt ∧ y109.toInt ≤ 400 := by rw [← m110]; exact th_iv hW rh0 (by decide) (by decide) rfl
                      obtain ⟨y112, m113⟩ : ∃ x : Int32, oI (f102 h0) 14 = x := ⟨_, rfl⟩
                      have b114 : (0 : Int) ≤ y112.toInt ∧ y112.toInt ≤ 400 := by rw [← m113]; exact th_iv hW rh0 (by decide) (by decide) rfl
                      obtain ⟨y115, m116⟩ : ∃ x : Int32, oI (f102 h0) 15 = x := ⟨_, rfl⟩
                      have b117 : (0 : Int) ≤ y115.toInt ∧ y115.toInt ≤ 3 := by rw [← m116]; exact th_iv hW rh0 (by decide) (by decide) rfl
                      obtain ⟨y118, m119⟩ : ∃ x : Int32, oI (f102 h0) 18 = x := ⟨_, rfl⟩
                      have b120 : (0 : Int) ≤ y118.toInt ∧ y118.toInt ≤ 1 := by rw [← m119]; exact th_iv hW rh0 (by decide) (by decide) rfl
                      obtain ⟨y121, m122⟩ : ∃ x : Int64, oJ (f102 h0) 16 = x := ⟨_, rfl⟩
                      simp only [((fm_I g105 rh0 rfl).trans ((fm_I g94 rh0 rfl).trans ((fm_I g84 rh0 rfl).trans m68))), ((fm_I g94 rh0 rfl).trans ((fm_I g84 rh0 rfl).trans m68)), m110, ((fm_I g94 rh0 rfl).trans ((fm_I g84 rh0 rfl).trans m69)), m113, ((fm_I g94 rh0 rfl).trans ((fm_I g84 rh0 rfl).trans m70)), m116, ((fm_I g94 rh0 rfl).trans ((fm_I g84 rh0 rfl).trans m71)), m119, ((fm_I g94 rh0 rfl).trans ((fm_I g84 rh0 rfl).trans m72)), m122, ((fm_J g94 rh0 rfl).trans ((fm_J g84 rh0 rfl).trans m76))] at h106
                      have z123 : GI f102 h0 gO gA ga (3) := gi_keep z98 hw104 g105 rh0 rfl rfl (fun q => by rw [((fm_I g94 rh0 rfl).trans ((fm_I g84 rh0 rfl).trans m72))] at q; rw [m119]; omega)
                      refine lv_aload_n hx hb dX12_behindSum_213 rfl (lv_at hl 2 rfl) ?_
                      refine fg_RX12_193 E hW rh0 dX12_behindSum_214 (fun y124 m125 b126 => ?_)
                      obtain rfl : y118 = y124 := (m119).symm.trans m125
                      refine q_if_ne (tgt := 231) hx hb dX12_behindSum_217 (by decide) rfl (fun c127 => ?_) (fun c127 => ?_)
                      · refine lv_iconst (v := 1) hx hb dX12_behindSum_231 (by decide) ?_
                        exact e_I E hW rfl ⟨⟨_, rfl, (by have hk : (1 : Int32).toInt = 1 := rfl; first | decide | omega)⟩, hF, (by intro r hr; cases hr; have hkr : (1 : Int32).toInt = 1 := rfl; simp only [((fm_I g105 rh0 rfl).trans ((fm_I g94 rh0 rfl).trans ((fm_I g84 rh0 rfl).trans m68))), mF12, m110, mF13, m113, mF14, m116, mF15, m125, mF18, ((fm_I g105 rh0 rfl).trans ((fm_I g94 rh0 rfl).trans ((fm_I g84 rh0 rfl).trans m73))), mF21, ((fm_I g105 rh0 rfl).trans ((fm_I g94 rh0 rfl).trans ((fm_I g84 rh0 rfl).trans m75))), mF27, m122, mW, and_true, true_and, true_or, or_true, false_or, or_false] <;> omega), (by intro r hr; cases hr; have hk : (1 : Int32).toInt = 1 := rfl; rw [hk]; exact (Or.inl (by rw [m125]; omega)))⟩ dX12_behindSum_232
                      · refine lv_aload_n hx hb dX12_behindSum_220 rfl (lv_at hl 2 rfl) ?_
                        refine lv_iconst (v := 5) hx hb dX12_behindSum_221 (by decide) ?_
                        have hw132 := hW.2.2.2
                        refine t_callV (As := [.int 5]) (rest := []) E hW (c_X12_settle l G cI cJ cZ cD cR cT kp L f102 hW.2.2.2 _ h0 5 rh0 (by decide) (by have hkq128 : (5 : Int32).toInt = 5 := rfl; simp only [((fm_I g105 rh0 rfl).trans ((fm_I g94 rh0 rfl).trans ((fm_I g84 rh0 rfl).trans m73))), ((fm_I g105 rh0 rfl).trans ((fm_I g94 rh0 rfl).trans ((fm_I g84 rh0 rfl).trans m75))), and_true, true_and, true_or, or_true, false_or, or_false] <;> omega)) rh0 (by decide) rfl wk_X12_settle tw_1882 rfl ⟨Nat.le_of_ble_eq_true rfl, Nat.le_of_ble_eq_true rfl⟩ ⟨rfl, rfl⟩ hl.1 rfl (Nat.le_of_ble_eq_true rfl) dX12_behindSum_222 ⟨Nat.le_of_ble_eq_true rfl, Nat.le_of_ble_eq_true rfl⟩ (fun v129 f130 H locs q131 hW => ?_)
                        obtain ⟨rfl, g133, h134, h135⟩ := q131
                        have hF := FM.tr hF g133 rfl
                        have hk136 : (5 : Int32).toInt = 5 := rfl
                        obtain ⟨y137, m138⟩ : ∃ x : Int32, oI (f130 h0) 21 = x := ⟨_, rfl⟩
                        have b139 : (0 : Int) ≤ y137.toInt ∧ y137.toInt ≤ 400 := by rw [← m138]; exact th_iv hW rh0 (by decide) (by decide) rfl
                        obtain ⟨y140, m141⟩ : ∃ x : Int32, oI (f130 h0) 27 = x := ⟨_, rfl⟩
                        have b142 : (0 : Int) ≤ y140.toInt ∧ y140.toInt ≤ 400 := by rw [← m141]; exact th_iv hW rh0 (by decide) (by decide) rfl
                        simp only [m138, ((fm_I g105 rh0 rfl).trans ((fm_I g94 rh0 rfl).trans ((fm_I g84 rh0 rfl).trans m73))), m141, ((fm_I g105 rh0 rfl).trans ((fm_I g94 rh0 rfl).trans ((fm_I g84 rh0 rfl).trans m75)))] at h134
                        have z143 : GI f102 h0 gO gA ga 2 := gi_no31 z123 z107 (by omega) (by rw [((fm_I g105 rh0 rfl).trans ((fm_I g94 rh0 rfl).trans ((fm_I g84 rh0 rfl).trans m75)))]; omega)
                        have z144 : GI f130 h0 gO gA ga (2) := gi_settle z143 hw132 rh0 g133 rfl (by omega) h135.1 h135.2.1 h135.2.2.1
                        refine lv_aload_n hx hb dX12_behindSum_225 rfl (lv_at hl 2 rfl) ?_
                        refine lv_iload_n hx hb dX12_behindSum_226 rfl (lv_at hl 0 rfl) ?_
                        refine lv_iconst (v := 0) hx hb dX12_behindSum_227 (by decide) ?_
                        have hw150 := hW.2.2.2
                        refine t_callV (As := [.int 26, .int 0]) (rest := []) E hW (c_X12_push l G cI cJ cZ cD cR cT kp L f130 hW.2.2.2 _ h0 26 0 rh0 (by decide) (by decide) (by have hkq145 : (26 : Int32).toInt = 26 := rfl; have hkq146 : (0 : Int32).toInt = 0 := rfl; simp only [m141, and_true, true_and, true_or, or_true, false_or, or_false] <;> omega)) rh0 (by decide) rfl wk_X12_push tw_1828 rfl ⟨Nat.le_of_ble_eq_true rfl, Nat.le_of_ble_eq_true rfl⟩ ⟨rfl, rfl⟩ hl.1 rfl (Nat.le_of_ble_eq_true rfl) dX12_behindSum_228 ⟨Nat.le_of_ble_eq_true rfl, Nat.le_of_ble_eq_true rfl⟩ (fun v147 f148 H locs q149 hW => ?_)
                        obtain ⟨rfl, g151, h152, h153⟩ := q149
                        have hF := FM.tr hF g151 rfl
                        have hk154 : (26 : Int32).toInt = 26 := rfl
                        have hk155 : (0 : Int32).toInt = 0 := rfl
                        obtain ⟨y156, m157⟩ : ∃ x : Int32, oI (f148 h0) 27 = x := ⟨_, rfl⟩
                        have b158 : (0 : Int) ≤ y156.toInt ∧ y156.toInt ≤ 400 := by rw [← m157]; exact th_iv hW rh0 (by decide) (by decide) rfl
                        simp only [m157, m141] at h152
                        have z159 : GI f148 h0 gO gA ga (1) := gi_push z144 hw150 g151 rh0 rfl rfl (by rw [m141]; omega) h153 (by have hk : (26 : Int32).toInt = 26 := rfl; omega)
                        refine lv_iconst (v := 1) hx hb dX12_behindSum_231 (by decide) ?_
                        exact e_I E hW rfl ⟨⟨_, rfl, (by have hk : (1 : Int32).toInt = 1 := rfl; first | decide | omega)⟩, hF, (by intro r hr; cases hr; have hkr : (1 : Int32).toInt = 1 := rfl; simp only [((fm_I g151 rh0 rfl).trans ((fm_I g133 rh0 rfl).trans ((fm_I g105 rh0 rfl).trans ((fm_I g94 rh0 rfl).trans ((fm_I g84 rh0 rfl).trans m68))))), mF12, ((fm_I g151 rh0 rfl).trans ((fm_I g133 rh0 rfl).trans m110)), mF13, ((fm_I g151 rh0 rfl).trans ((fm_I g133 rh0 rfl).trans m113)), mF14, ((fm_I g151 rh0 rfl).trans ((fm_I g133 rh0 rfl).trans m116)), mF15, ((fm_I g151 rh0 rfl).trans ((fm_I g133 rh0 rfl).trans m125)), mF18, ((fm_I g151 rh0 rfl).trans m138), mF21, m157, mF27, ((fm_J g151 rh0 rfl).trans ((fm_J g133 rh0 rfl).trans m122)), mW, and_true, true_and, true_or, or_true, false_or, or_false] <;> omega), (by intro r hr; cases hr; have hk : (1 : Int32).toInt = 1 := rfl; rw [hk]; exact z159)⟩ dX12_behindSum_232
                    · have q160 : pF15.toInt = 3 := by omega
                      clear p96
                      refine lv_iconst (v := 1) hx hb dX12_behindSum_205 (by decide) ?_
                      refine lv_goto (tgt := 210) hx hb dX12_behindSum_206 (by decide) ?_
                      have hw165 := hW.2.2.2
                      refine t_callV (As := [.int 1]) (rest := []) E hW (c_X12_must l G cI cJ cZ cD cR cT kp L f91 hW.2.2.2 _ h0 1 rh0 (by decide) (by have hkq161 : (1 : Int32).toInt = 1 := rfl; simp only [((fm_I g94 rh0 rfl).trans ((fm_I g84 rh0 rfl).trans m68)), ((fm_I g94 rh0 rfl).trans ((fm_I g84 rh0 rfl).trans m69)), ((fm_I g94 rh0 rfl).trans ((fm_I g84 rh0 rfl).trans m70)), ((fm_I g94 rh0 rfl).trans ((fm_I g84 rh0 rfl).trans m71)), ((fm_J g94 rh0 rfl).trans ((fm_J g84 rh0 rfl).trans m76)), and_true, true_and, true_or, or_true, false_or, or_false] <;> omega)) rh0 (by decide) rfl wk_X12_must tw_1807 rfl ⟨Nat.le_of_ble_eq_true rfl, Nat.le_of_ble_eq_true rfl⟩ ⟨rfl, rfl⟩ hl.1 rfl (Nat.le_of_ble_eq_true rfl) dX12_behindSum_210 ⟨Nat.le_of_ble_eq_true rfl, Nat.le_of_ble_eq_true rfl⟩ (fun v162 f163 H locs q164 hW => ?_)
                      obtain ⟨rfl, g166, h167⟩ := q164
                      have z168 : innI (vP f163 h0) x43.toInt (oI (f163 h0) 27).toInt := by obtain ⟨e1, -, e3⟩ := p_keep hw165 g166 rh0 rfl; rw [e1, e3]; exact z97
                      have hF := FM.tr hF g166 rfl
                      have hk169 : (1 : Int32).toInt = 1 := rfl
                      obtain ⟨y170, m171⟩ : ∃ x : Int32, oI (f163 h0) 13 = x := ⟨_, rfl⟩
                      have b172 : (0 : Int) ≤ y170.toInt ∧ y170.toInt ≤ 400 := by rw [← m171]; exact th_iv hW rh0 (by decide) (by decide) rfl
                      obtain ⟨y173, m174⟩ : ∃ x : Int32, oI (f163 h0) 14 = x := ⟨_, rfl⟩
                      have b175 : (0 : Int) ≤ y173.toInt ∧ y173.toInt ≤ 400 := by rw [← m174]; exact th_iv hW rh0 (by decide) (by decide) rfl
                      obtain ⟨y176, m177⟩ : ∃ x : Int32, oI (f163 h0) 15 = x := ⟨_, rfl⟩
                      have b178 : (0 : Int) ≤ y176.toInt ∧ y176.toInt ≤ 3 := by rw [← m177]; exact th_iv hW rh0 (by decide) (by decide) rfl
                      obtain ⟨y179, m180⟩ : ∃ x : Int32, oI (f163 h0) 18 = x := ⟨_, rfl⟩
                      have b181 : (0 : Int) ≤ y179.toInt ∧ y179.toInt ≤ 1 := by rw [← m180]; exact th_iv hW rh0 (by decide) (by decide) rfl
                      obtain ⟨y182, m183⟩ : ∃ x : Int64, oJ (f163 h0) 16 = x := ⟨_, rfl⟩
                      simp only [((fm_I g166 rh0 rfl).trans ((fm_I g94 rh0 rfl).trans ((fm_I g84 rh0 rfl).trans m68))), ((fm_I g94 rh0 rfl).trans ((fm_I g84 rh0 rfl).trans m68)), m171, ((fm_I g94 rh0 rfl).trans ((fm_I g84 rh0 rfl).trans m69)), m174, ((fm_I g94 rh0 rfl).trans ((fm_I g84 rh0 rfl).trans m70)), m177, ((fm_I g94 rh0 rfl).trans ((fm_I g84 rh0 rfl).trans m71)), m180, ((fm_I g94 rh0 rfl).trans ((fm_I g84 rh0 rfl).trans m72)), m183, ((fm_J g94 rh0 rfl).trans ((fm_J g84 rh0 rfl).trans m76))] at h167
                      have z184 : GI f163 h0 gO gA ga (3) := gi_keep z98 hw165 g166 rh0 rfl rfl (fun q => by rw [((fm_I g94 rh0 rfl).trans ((fm_I g84 rh0 rfl).trans m72))] at q; rw [m180]; omega)
                      refine lv_aload_n hx hb dX12_behindSum_213 rfl (lv_at hl 2 rfl) ?_
                      refine fg_RX12_193 E hW rh0 dX12_behindSum_214 (fun y185 m186 b187 => ?_)
                      obtain rfl : y179 = y185 := (m180).symm.trans m186
                      refine q_if_ne (tgt := 231) hx hb dX12_behindSum_217 (by decide) rfl (fun c188 => ?_) (fun c188 => ?_)
                      · refine lv_iconst (v := 1) hx hb dX12_behindSum_231 (by decide) ?_
                        exact e_I E hW rfl ⟨⟨_, rfl, (by have hk : (1 : Int32).toInt = 1 := rfl; first | decide | omega)⟩, hF, (by intro r hr; cases hr; have hkr : (1 : Int32).toInt = 1 := rfl; simp only [((fm_I g166 rh0 rfl).trans ((fm_I g94 rh0 rfl).trans ((fm_I g84 rh0 rfl).trans m68))), mF12, m171, mF13, m174, mF14, m177, mF15, m186, mF18, ((fm_I g166 rh0 rfl).trans ((fm_I g94 rh0 rfl).trans ((fm_I g84 rh0 rfl).trans m73))), mF21, ((fm_I g166 rh0 rfl).trans ((fm_I g94 rh0 rfl).trans ((fm_I g84 rh0 rfl).trans m75))), mF27, m183, mW, and_true, true_and, true_or, or_true, false_or, or_false] <;> omega), (by intro r hr; cases hr; have hk : (1 : Int32).toInt = 1 := rfl; rw [hk]; exact (Or.inl (by rw [m186]; omega)))⟩ dX12_behindSum_232
                      · refine lv_aload_n hx hb dX12_behindSum_220 rfl (lv_at hl 2 rfl) ?_
                        refine lv_iconst (v := 5) hx hb dX12_behindSum_221 (by decide) ?_
                        have hw193 := hW.2.2.2
                        refine t_callV (As := [.int 5]) (rest := []) E hW (c_X12_settle l G cI cJ cZ cD cR cT kp L f163 hW.2.2.2 _ h0 5 rh0 (by decide) (by have hkq189 : (5 : Int32).toInt = 5 := rfl; simp only [((fm_I g166 rh0 rfl).trans ((fm_I g94 rh0 rfl).trans ((fm_I g84 rh0 rfl).trans m73))), ((fm_I g166 rh0 rfl).trans ((fm_I g94 rh0 rfl).trans ((fm_I g84 rh0 rfl).trans m75))), and_true, true_and, true_or, or_true, false_or, or_false] <;> omega)) rh0 (by decide) rfl wk_X12_settle tw_1882 rfl ⟨Nat.le_of_ble_eq_true rfl, Nat.le_of_ble_eq_true rfl⟩ ⟨rfl, rfl⟩ hl.1 rfl (Nat.le_of_ble_eq_true rfl) dX12_behindSum_222 ⟨Nat.le_of_ble_eq_true rfl, Nat.le_of_ble_eq_true rfl⟩ (fun v190 f191 H locs q192 hW => ?_)
                        obtain ⟨rfl, g194, h195, h196⟩ := q192
                        have hF := FM.tr hF g194 rfl
                        have hk197 : (5 : Int32).toInt = 5 := rfl
                        obtain ⟨y198, m199⟩ : ∃ x : Int32, oI (f191 h0) 21 = x := ⟨_, rfl⟩
                        have b200 : (0 : Int) ≤ y198.toInt ∧ y198.toInt ≤ 400 := by rw [← m199]; exact th_iv hW rh0 (by decide) (by decide) rfl
                        obtain ⟨y201, m202⟩ : ∃ x : Int32, oI (f191 h0) 27 = x := ⟨_, rfl⟩
                        have b203 : (0 : Int) ≤ y201.toInt ∧ y201.toInt ≤ 400 := by rw [← m202]; exact th_iv hW rh0 (by decide) (by decide) rfl
                        simp only [m199, ((fm_I g166 rh0 rfl).trans ((fm_I g94 rh0 rfl).trans ((fm_I g84 rh0 rfl).trans m73))), m202, ((fm_I g166 rh0 rfl).trans ((fm_I g94 rh0 rfl).trans ((fm_I g84 rh0 rfl).trans m75)))] at h195
                        have z204 : GI f163 h0 gO gA ga 2 := gi_no31 z184 z168 (by omega) (by rw [((fm_I g166 rh0 rfl).trans ((fm_I g94 rh0 rfl).trans ((fm_I g84 rh0 rfl).trans m75)))]; omega)
                        have z205 : GI f191 h0 gO gA ga (2) := gi_settle z204 hw193 rh0 g194 rfl (by omega) h196.1 h196.2.1 h196.2.2.1
                        refine lv_aload_n hx hb dX12_behindSum_225 rfl (lv_at hl 2 rfl) ?_
                        refine lv_iload_n hx hb dX12_behindSum_226 rfl (lv_at hl 0 rfl) ?_
                        refine lv_iconst (v := 0) hx hb dX12_behindSum_227 (by decide) ?_
                        have hw211 := hW.2.2.2
                        refine t_callV (As := [.int 26, .int 0]) (rest := []) E hW (c_X12_push l G cI cJ cZ cD cR cT kp L f191 hW.2.2.2 _ h0 26 0 rh0 (by decide) (by decide) (by have hkq206 : (26 : Int32).toInt = 26 := rfl; have hkq207 : (0 : Int32).toInt = 0 := rfl; simp only [m202, and_true, true_and, true_or, or_true, false_or, or_false] <;> omega)) rh0 (by decide) rfl wk_X12_push tw_1828 rfl ⟨Nat.le_of_ble_eq_true rfl, Nat.le_of_ble_eq_true rfl⟩ ⟨rfl, rfl⟩ hl.1 rfl (Nat.le_of_ble_eq_true rfl) dX12_behindSum_228 ⟨Nat.le_of_ble_eq_true rfl, Nat.le_of_ble_eq_true rfl⟩ (fun v208 f209 H locs q210 hW => ?_)
                        obtain ⟨rfl, g212, h213, h214⟩ := q210
                        have hF := FM.tr hF g212 rfl
                        have hk215 : (26 : Int32).toInt = 26 := rfl
                        have hk216 : (0 : Int32).toInt = 0 := rfl
                        obtain ⟨y217, m218⟩ : ∃ x : Int32, oI (f209 h0) 27 = x := ⟨_, rfl⟩
                        have b219 : (0 : Int) ≤ y217.toInt ∧ y217.toInt ≤ 400 := by rw [← m218]; exact th_iv hW rh0 (by decide) (by decide) rfl
                        simp only [m218, m202] at h213
                        have z220 : GI f209 h0 gO gA ga (1) := gi_push z205 hw211 g212 rh0 rfl rfl (by rw [m202]; omega) h214 (by have hk : (26 : Int32).toInt = 26 := rfl; omega)
                        refine lv_iconst (v := 1) hx hb dX12_behindSum_231 (by decide) ?_
                        exact e_I E hW rfl ⟨⟨_, rfl, (by have hk : (1 : Int32).toInt = 1 := rfl; first | decide | omega)⟩, hF, (by intro r hr; cases hr; have hkr : (1 : Int32).toInt = 1 := rfl; simp only [((fm_I g212 rh0 rfl).trans ((fm_I g194 rh0 rfl).trans ((fm_I g166 rh0 rfl).trans ((fm_I g94 rh0 rfl).trans ((fm_I g84 rh0 rfl).trans m68))))), mF12, ((fm_I g212 rh0 rfl).trans ((fm_I g194 rh0 rfl).trans m171)), mF13, ((fm_I g212 rh0 rfl).trans ((fm_I g194 rh0 rfl).trans m174)), mF14, ((fm_I g212 rh0 rfl).trans ((fm_I g194 rh0 rfl).trans m177)), mF15, ((fm_I g212 rh0 rfl).trans ((fm_I g194 rh0 rfl).trans m186)), mF18, ((fm_I g212 rh0 rfl).trans m199), mF21, m218, mF27, ((fm_J g212 rh0 rfl).trans ((fm_J g194 rh0 rfl).trans m183)), mW, and_true, true_and, true_or, or_true, false_or, or_false] <;> omega), (by intro r hr; cases hr; have hk : (1 : Int32).toInt = 1 := rfl; rw [hk]; exact z220)⟩ dX12_behindSum_232
                  · have q221 : pF15.toInt = 3 := by omega
                    clear p86
                    refine lv_bipush (v := 25) hx hb dX12_behindSum_181 (by decide) ?_
                    refine lv_goto (tgt := 188) hx hb dX12_behindSum_183 (by decide) ?_
                    refine lv_istore_n (lv' := [(2, .int 25), (3, .int x43), (0, .ref h0), (1, .int u1)]) hx hb dX12_behindSum_188 rfl hl (by decide) rfl (fun ls hl => ?_)
                    refine lv_aload_n hx hb dX12_behindSum_189 rfl (lv_at hl 2 rfl) ?_
                    refine lv_iload_n hx hb dX12_behindSum_190 rfl (lv_at hl 0 rfl) ?_
                    refine lv_bipush (v := 26) hx hb dX12_behindSum_191 (by decide) ?_
                    refine q_icmp_ne (X := 25) (Y := 26) (tgt := 205) hx hb dX12_behindSum_193 (by decide) rfl rfl (fun _ => ?_) (fun c => absurd c (by decide))
                    refine lv_iconst (v := 1) hx hb dX12_behindSum_205 (by decide) ?_
                    refine lv_goto (tgt := 210) hx hb dX12_behindSum_206 (by decide) ?_
                    have hw226 := hW.2.2.2
                    refine t_callV (As := [.int 1]) (rest := []) E hW (c_X12_must l G cI cJ cZ cD cR cT kp L f81 hW.2.2.2 _ h0 1 rh0 (by decide) (by have hkq222 : (1 : Int32).toInt = 1 := rfl; simp only [((fm_I g84 rh0 rfl).trans m68), ((fm_I g84 rh0 rfl).trans m69), ((fm_I g84 rh0 rfl).trans m70), ((fm_I g84 rh0 rfl).trans m71), ((fm_J g84 rh0 rfl).trans m76), and_true, true_and, true_or, or_true, false_or, or_false] <;> omega)) rh0 (by decide) rfl wk_X12_must tw_1807 rfl ⟨Nat.le_of_ble_eq_true rfl, Nat.le_of_ble_eq_true rfl⟩ ⟨rfl, rfl⟩ hl.1 rfl (Nat.le_of_ble_eq_true rfl) dX12_behindSum_210 ⟨Nat.le_of_ble_eq_true rfl, Nat.le_of_ble_eq_true rfl⟩ (fun v223 f224 H locs q225 hW => ?_)
                    obtain ⟨rfl, g227, h228⟩ := q225
                    have z229 : innI (vP f224 h0) x43.toInt (oI (f224 h0) 27).toInt := by obtain ⟨e1, -, e3⟩ := p_keep hw226 g227 rh0 rfl; rw [e1, e3]; exact z87
                    have hF := FM.tr hF g227 rfl
                    have hk230 : (1 : Int32).toInt = 1 := rfl
                    obtain ⟨y231, m232⟩ : ∃ x : Int32, oI (f224 h0) 13 = x := ⟨_, rfl⟩
                    have b233 : (0 : Int) ≤ y231.toInt ∧ y231.toInt ≤ 400 := by rw [← m232]; exact th_iv hW rh0 (by decide) (by decide) rfl
                    obtain ⟨y234, m235⟩ : ∃ x : Int32, oI (f224 h0) 14 = x := ⟨_, rfl⟩
                    have b236 : (0 : Int) ≤ y234.toInt ∧ y234.toInt ≤ 400 := by rw [← m235]; exact th_iv hW rh0 (by decide) (by decide) rfl
                    obtain ⟨y237, m238⟩ : ∃ x : Int32, oI (f224 h0) 15 = x := ⟨_, rfl⟩
                    have b239 : (0 : Int) ≤ y237.toInt ∧ y237.toInt ≤ 3 := by rw [← m238]; exact th_iv hW rh0 (by decide) (by decide) rfl
                    obtain ⟨y240, m241⟩ : ∃ x : Int32, oI (f224 h0) 18 = x := ⟨_, rfl⟩
                    have b242 : (0 : Int) ≤ y240.toInt ∧ y240.toInt ≤ 1 := by rw [← m241]; exact th_iv hW rh0 (by decide) (by decide) rfl
                    obtain ⟨y243, m244⟩ : ∃ x : Int64, oJ (f224 h0) 16 = x := ⟨_, rfl⟩
                    simp only [((fm_I g227 rh0 rfl).trans ((fm_I g84 rh0 rfl).trans m68)), ((fm_I g84 rh0 rfl).trans m68), m232, ((fm_I g84 rh0 rfl).trans m69), m235, ((fm_I g84 rh0 rfl).trans m70), m238, ((fm_I g84 rh0 rfl).trans m71), m241, ((fm_I g84 rh0 rfl).trans m72), m244, ((fm_J g84 rh0 rfl).trans m76)] at h228
                    have z245 : GI f224 h0 gO gA ga (3) := gi_keep z88 hw226 g227 rh0 rfl rfl (fun q => by rw [((fm_I g84 rh0 rfl).trans m72)] at q; rw [m241]; omega)
                    refine lv_aload_n hx hb dX12_behindSum_213 rfl (lv_at hl 2 rfl) ?_
                    refine fg_RX12_193 E hW rh0 dX12_behindSum_214 (fun y246 m247 b248 => ?_)
                    obtain rfl : y240 = y246 := (m241).symm.trans m247
                    refine q_if_ne (tgt := 231) hx hb dX12_behindSum_217 (by decide) rfl (fun c249 => ?_) (fun c249 => ?_)
                    · refine lv_iconst (v := 1) hx hb dX12_behindSum_231 (by decide) ?_
                      exact e_I E hW rfl ⟨⟨_, rfl, (by have hk : (1 : Int32).toInt = 1 := rfl; first | decide | omega)⟩, hF, (by intro r hr; cases hr; have hkr : (1 : Int32).toInt = 1 := rfl; simp only [((fm_I g227 rh0 rfl).trans ((fm_I g84 rh0 rfl).trans m68)), mF12, m232, mF13, m235, mF14, m238, mF15, m247, mF18, ((fm_I g227 rh0 rfl).trans ((fm_I g84 rh0 rfl).trans m73)), mF21, ((fm_I g227 rh0 rfl).trans ((fm_I g84 rh0 rfl).trans m75)), mF27, m244, mW, and_true, true_and, true_or, or_true, false_or, or_false] <;> omega), (by intro r hr; cases hr; have hk : (1 : Int32).toInt = 1 := rfl; rw [hk]; exact (Or.inl (by rw [m247]; omega)))⟩ dX12_behindSum_232
                    · refine lv_aload_n hx hb dX12_behindSum_220 rfl (lv_at hl 2 rfl) ?_
                      refine lv_iconst (v := 5) hx hb dX12_behindSum_221 (by decide) ?_
                      have hw254 := hW.2.2.2
                      refine t_callV (As := [.int 5]) (rest := []) E hW (c_X12_settle l G cI cJ cZ cD cR cT kp L f224 hW.2.2.2 _ h0 5 rh0 (by decide) (by have hkq250 : (5 : Int32).toInt = 5 := rfl; simp only [((fm_I g227 rh0 rfl).trans ((fm_I g84 rh0 rfl).trans m73)), ((fm_I g227 rh0 rfl).trans ((fm_I g84 rh0 rfl).trans m75)), and_true, true_and, true_or, or_true, false_or, or_false] <;> omega)) rh0 (by decide) rfl wk_X12_settle tw_1882 rfl ⟨Nat.le_of_ble_eq_true rfl, Nat.le_of_ble_eq_true rfl⟩ ⟨rfl, rfl⟩ hl.1 rfl (Nat.le_of_ble_eq_true rfl) dX12_behindSum_222 ⟨Nat.le_of_ble_eq_true rfl, Nat.le_of_ble_eq_true rfl⟩ (fun v251 f252 H locs q253 hW => ?_)
                      obtain ⟨rfl, g255, h256, h257⟩ := q253
                      have hF := FM.tr hF g255 rfl
                      have hk258 : (5 : Int32).toInt = 5 := rfl
                      obtain ⟨y259, m260⟩ : ∃ x : Int32, oI (f252 h0) 21 = x := ⟨_, rfl⟩
                      have b261 : (0 : Int) ≤ y259.toInt ∧ y259.toInt ≤ 400 := by rw [← m260]; exact th_iv hW rh0 (by decide) (by decide) rfl
                      obtain ⟨y262, m263⟩ : ∃ x : Int32, oI (f252 h0) 27 = x := ⟨_, rfl⟩
                      have b264 : (0 : Int) ≤ y262.toInt ∧ y262.toInt ≤ 400 := by rw [← m263]; exact th_iv hW rh0 (by decide) (by decide) rfl
                      simp only [m260, ((fm_I g227 rh0 rfl).trans ((fm_I g84 rh0 rfl).trans m73)), m263, ((fm_I g227 rh0 rfl).trans ((fm_I g84 rh0 rfl).trans m75))] at h256
                      have z265 : GI f224 h0 gO gA ga 2 := gi_no31 z245 z229 (by omega) (by rw [((fm_I g227 rh0 rfl).trans ((fm_I g84 rh0 rfl).trans m75))]; omega)
                      have z266 : GI f252 h0 gO gA ga (2) := gi_settle z265 hw254 rh0 g255 rfl (by omega) h257.1 h257.2.1 h257.2.2.1
                      refine lv_aload_n hx hb dX12_behindSum_225 rfl (lv_at hl 2 rfl) ?_
                      refine lv_iload_n hx hb dX12_behindSum_226 rfl (lv_at hl 0 rfl) ?_
                      refine lv_iconst (v := 0) hx hb dX12_behindSum_227 (by decide) ?_
                      have hw272 := hW.2.2.2
                      refine t_callV (As := [.int 25, .int 0]) (rest := []) E hW (c_X12_push l G cI cJ cZ cD cR cT kp L f252 hW.2.2.2 _ h0 25 0 rh0 (by decide) (by decide) (by have hkq267 : (25 : Int32).toInt = 25 := rfl; have hkq268 : (0 : Int32).toInt = 0 := rfl; simp only [m263, and_true, true_and, true_or, or_true, false_or, or_false] <;> omega)) rh0 (by decide) rfl wk_X12_push tw_1828 rfl ⟨Nat.le_of_ble_eq_true rfl, Nat.le_of_ble_eq_true rfl⟩ ⟨rfl, rfl⟩ hl.1 rfl (Nat.le_of_ble_eq_true rfl) dX12_behindSum_228 ⟨Nat.le_of_ble_eq_true rfl, Nat.le_of_ble_eq_true rfl⟩ (fun v269 f270 H locs q271 hW => ?_)
                      obtain ⟨rfl, g273, h274, h275⟩ := q271
                      have hF := FM.tr hF g273 rfl
                      have hk276 : (25 : Int32).toInt = 25 := rfl
                      have hk277 : (0 : Int32).toInt = 0 := rfl
                      obtain ⟨y278, m279⟩ : ∃ x : Int32, oI (f270 h0) 27 = x := ⟨_, rfl⟩
                      have b280 : (0 : Int) ≤ y278.toInt ∧ y278.toInt ≤ 400 := by rw [← m279]; exact th_iv hW rh0 (by decide) (by decide) rfl
                      simp only [m279, m263] at h274
                      have z281 : GI f270 h0 gO gA ga (1) := gi_push z266 hw272 g273 rh0 rfl rfl (by rw [m263]; omega) h275 (by have hk : (25 : Int32).toInt = 25 := rfl; omega)
                      refine lv_iconst (v := 1) hx hb dX12_behindSum_231 (by decide) ?_
                      exact e_I E hW rfl ⟨⟨_, rfl, (by have hk : (1 : Int32).toInt = 1 := rfl; first | decide | omega)⟩, hF, (by intro r hr; cases hr; have hkr : (1 : Int32).toInt = 1 := rfl; simp only [((fm_I g273 rh0 rfl).trans ((fm_I g255 rh0 rfl).trans ((fm_I g227 rh0 rfl).trans ((fm_I g84 rh0 rfl).trans m68)))), mF12, ((fm_I g273 rh0 rfl).trans ((fm_I g255 rh0 rfl).trans m232)), mF13, ((fm_I g273 rh0 rfl).trans ((fm_I g255 rh0 rfl).trans m235)), mF14, ((fm_I g273 rh0 rfl).trans ((fm_I g255 rh0 rfl).trans m238)), mF15, ((fm_I g273 rh0 rfl).trans ((fm_I g255 rh0 rfl).trans m247)), mF18, ((fm_I g273 rh0 rfl).trans m260), mF21, m279, mF27, ((fm_J g273 rh0 rfl).trans ((fm_J g255 rh0 rfl).trans m244)), mW, and_true, true_and, true_or, or_true, false_or, or_false] <;> omega), (by intro r hr; cases hr; have hk : (1 : Int32).toInt = 1 := rfl; rw [hk]; exact z281)⟩ dX12_behindSum_232
                · have q282 : pF15.toInt = 3 := by omega
                  clear p66
                  refine lv_bipush (v := 24) hx hb dX12_behindSum_167 (by decide) ?_
                  refine lv_goto (tgt := 188) hx hb dX12_behindSum_169 (by decide) ?_
                  refine lv_istore_n (lv' := [(2, .int 24), (3, .int x43), (0, .ref h0), (1, .int u1)]) hx hb dX12_behindSum_188 rfl hl (by decide) rfl (fun ls hl => ?_)
                  refine lv_aload_n hx hb dX12_behindSum_189 rfl (lv_at hl 2 rfl) ?_
                  refine lv_iload_n hx hb dX12_behindSum_190 rfl (lv_at hl 0 rfl) ?_
                  refine lv_bipush (v := 26) hx hb dX12_behindSum_191 (by decide) ?_
                  refine q_icmp_ne (X := 24) (Y := 26) (tgt := 205) hx hb dX12_behindSum_193 (by decide) rfl rfl (fun _ => ?_) (fun c => absurd c (by decide))
                  refine lv_iconst (v := 1) hx hb dX12_behindSum_205 (by decide) ?_
                  refine lv_goto (tgt := 210) hx hb dX12_behindSum_206 (by decide) ?_
                  have hw287 := hW.2.2.2
                  refine t_callV (As := [.int 1]) (rest := []) E hW (c_X12_must l G cI cJ cZ cD cR cT kp L f61 hW.2.2.2 _ h0 1 rh0 (by decide) (by have hkq283 : (1 : Int32).toInt = 1 := rfl; simp only [m68, m69, m70, m71, m76, and_true, true_and, true_or, or_true, false_or, or_false] <;> omega)) rh0 (by decide) rfl wk_X12_must tw_1807 rfl ⟨Nat.le_of_ble_eq_true rfl, Nat.le_of_ble_eq_true rfl⟩ ⟨rfl, rfl⟩ hl.1 rfl (Nat.le_of_ble_eq_true rfl) dX12_behindSum_210 ⟨Nat.le_of_ble_eq_true rfl, Nat.le_of_ble_eq_true rfl⟩ (fun v284 f285 H locs q286 hW => ?_)
                  obtain ⟨rfl, g288, h289⟩ := q286
                  have z290 : innI (vP f285 h0) x43.toInt (oI (f285 h0) 27).toInt := by obtain ⟨e1, -, e3⟩ := p_keep hw287 g288 rh0 rfl; rw [e1, e3]; exact z77
                  have hF := FM.tr hF g288 rfl
                  have hk291 : (1 : Int32).toInt = 1 := rfl
                  obtain ⟨y292, m293⟩ : ∃ x : Int32, oI (f285 h0) 13 = x := ⟨_, rfl⟩
                  have b294 : (0 : Int) ≤ y292.toInt ∧ y292.toInt ≤ 400 := by rw [← m293]; exact th_iv hW rh0 (by decide) (by decide) rfl
                  obtain ⟨y295, m296⟩ : ∃ x : Int32, oI (f285 h0) 14 = x := ⟨_, rfl⟩
                  have b297 : (0 : Int) ≤ y295.toInt ∧ y295.toInt ≤ 400 := by rw [← m296]; exact th_iv hW rh0 (by decide) (by decide) rfl
                  obtain ⟨y298, m299⟩ : ∃ x : Int32, oI (f285 h0) 15 = x := ⟨_, rfl⟩
                  have b300 : (0 : Int) ≤ y298.toInt ∧ y298.toInt ≤ 3 := by rw [← m299]; exact th_iv hW rh0 (by decide) (by decide) rfl
                  obtain ⟨y301, m302⟩ : ∃ x : Int32, oI (f285 h0) 18 = x := ⟨_, rfl⟩
                  have b303 : (0 : Int) ≤ y301.toInt ∧ y301.toInt ≤ 1 := by rw [← m302]; exact th_iv hW rh0 (by decide) (by decide) rfl
                  obtain ⟨y304, m305⟩ : ∃ x : Int64, oJ (f285 h0) 16 = x := ⟨_, rfl⟩
                  simp only [((fm_I g288 rh0 rfl).trans m68), m68, m293, m69, m296, m70, m299, m71, m302, m72, m305, m76] at h289
                  have z306 : GI f285 h0 gO gA ga (3) := gi_keep z78 hw287 g288 rh0 rfl rfl (fun q => by rw [m72] at q; rw [m302]; omega)
                  refine lv_aload_n hx hb dX12_behindSum_213 rfl (lv_at hl 2 rfl) ?_
                  refine fg_RX12_193 E hW rh0 dX12_behindSum_214 (fun y307 m308 b309 => ?_)
                  obtain rfl : y301 = y307 := (m302).symm.trans m308
                  refine q_if_ne (tgt := 231) hx hb dX12_behindSum_217 (by decide) rfl (fun c310 => ?_) (fun c310 => ?_)
                  · refine lv_iconst (v := 1) hx hb dX12_behindSum_231 (by decide) ?_
                    exact e_I E hW rfl ⟨⟨_, rfl, (by have hk : (1 : Int32).toInt = 1 := rfl; first | decide | omega)⟩, hF, (by intro r hr; cases hr; have hkr : (1 : Int32).toInt = 1 := rfl; simp only [((fm_I g288 rh0 rfl).trans m68), mF12, m293, mF13, m296, mF14, m299, mF15, m308, mF18, ((fm_I g288 rh0 rfl).trans m73), mF21, ((fm_I g288 rh0 rfl).trans m75), mF27, m305, mW, and_true, true_and, true_or, or_true, false_or, or_false] <;> omega), (by intro r hr; cases hr; have hk : (1 : Int32).toInt = 1 := rfl; rw [hk]; exact (Or.inl (by rw [m308]; omega)))⟩ dX12_behindSum_232
                  · refine lv_aload_n hx hb dX12_behindSum_220 rfl (lv_at hl 2 rfl) ?_
                    refine lv_iconst (v := 5) hx hb dX12_behindSum_221 (by decide) ?_
                    have hw315 := hW.2.2.2
                    refine t_callV (As := [.int 5]) (rest := []) E hW (c_X12_settle l G cI cJ cZ cD cR cT kp L f285 hW.2.2.2 _ h0 5 rh0 (by decide) (by have hkq311 : (5 : Int32).toInt = 5 := rfl; simp only [((fm_I g288 rh0 rfl).trans m73), ((fm_I g288 rh0 rfl).trans m75), and_true, true_and, true_or, or_true, false_or, or_false] <;> omega)) rh0 (by decide) rfl wk_X12_settle tw_1882 rfl ⟨Nat.le_of_ble_eq_true rfl, Nat.le_of_ble_eq_true rfl⟩ ⟨rfl, rfl⟩ hl.1 rfl (Nat.le_of_ble_eq_true rfl) dX12_behindSum_222 ⟨Nat.le_of_ble_eq_true rfl, Nat.le_of_ble_eq_true rfl⟩ (fun v312 f313 H locs q314 hW => ?_)
                    obtain ⟨rfl, g316, h317, h318⟩ := q314
                    have hF := FM.tr hF g316 rfl
                    have hk319 : (5 : Int32).toInt = 5 := rfl
                    obtain ⟨y320, m321⟩ : ∃ x : Int32, oI (f313 h0) 21 = x := ⟨_, rfl⟩
                    have b322 : (0 : Int) ≤ y320.toInt ∧ y320.toInt ≤ 400 := by rw [← m321]; exact th_iv hW rh0 (by decide) (by decide) rfl
                    obtain ⟨y323, m324⟩ : ∃ x : Int32, oI (f313 h0) 27 = x := ⟨_, rfl⟩
                    have b325 : (0 : Int) ≤ y323.toInt ∧ y323.toInt ≤ 400 := by rw [← m324]; exact th_iv hW rh0 (by decide) (by decide) rfl
                    simp only [m321, ((fm_I g288 rh0 rfl).trans m73), m324, ((fm_I g288 rh0 rfl).trans m75)] at h317
                    have z326 : GI f285 h0 gO gA ga 2 := gi_no31 z306 z290 (by omega) (by rw [((fm_I g288 rh0 rfl).trans m75)]; omega)
                    have z327 : GI f313 h0 gO gA ga (2) := gi_settle z326 hw315 rh0 g316 rfl (by omega) h318.1 h318.2.1 h318.2.2.1
                    refine lv_aload_n hx hb dX12_behindSum_225 rfl (lv_at hl 2 rfl) ?_
                    refine lv_iload_n hx hb dX12_behindSum_226 rfl (lv_at hl 0 rfl) ?_
                    refine lv_iconst (v := 0) hx hb dX12_behindSum_227 (by decide) ?_
                    have hw333 := hW.2.2.2
                    refine t_callV (As := [.int 24, .int 0]) (rest := []) E hW (c_X12_push l G cI cJ cZ cD cR cT kp L f313 hW.2.2.2 _ h0 24 0 rh0 (by decide) (by decide) (by have hkq328 : (24 : Int32).toInt = 24 := rfl; have hkq329 : (0 : Int32).toInt = 0 := rfl; simp only [m324, and_true, true_and, true_or, or_true, false_or, or_false] <;> omega)) rh0 (by decide) rfl wk_X12_push tw_1828 rfl ⟨Nat.le_of_ble_eq_true rfl, Nat.le_of_ble_eq_true rfl⟩ ⟨rfl, rfl⟩ hl.1 rfl (Nat.le_of_ble_eq_true rfl) dX12_behindSum_228 ⟨Nat.le_of_ble_eq_true rfl, Nat.le_of_ble_eq_true rfl⟩ (fun v330 f331 H locs q332 hW => ?_)
                    obtain ⟨rfl, g334, h335, h336⟩ := q332
                    have hF := FM.tr hF g334 rfl
                    have hk337 : (24 : Int32).toInt = 24 := rfl
                    have hk338 : (0 : Int32).toInt = 0 := rfl
                    obtain ⟨y339, m340⟩ : ∃ x : Int32, oI (f331 h0) 27 = x := ⟨_, rfl⟩
                    have b341 : (0 : Int) ≤ y339.toInt ∧ y339.toInt ≤ 400 := by rw [← m340]; exact th_iv hW rh0 (by decide) (by decide) rfl
                    simp only [m340, m324] at h335
                    have z342 : GI f331 h0 gO gA ga (1) := gi_push z327 hw333 g334 rh0 rfl rfl (by rw [m324]; omega) h336 (by have hk : (24 : Int32).toInt = 24 := rfl; omega)
                    refine lv_iconst (v := 1) hx hb dX12_behindSum_231 (by decide) ?_
                    exact e_I E hW rfl ⟨⟨_, rfl, (by have hk : (1 : Int32).toInt = 1 := rfl; first | decide | omega)⟩, hF, (by intro r hr; cases hr; have hkr : (1 : Int32).toInt = 1 := rfl; simp only [((fm_I g334 rh0 rfl).trans ((fm_I g316 rh0 rfl).trans ((fm_I g288 rh0 rfl).trans m68))), mF12, ((fm_I g334 rh0 rfl).trans ((fm_I g316 rh0 rfl).trans m293)), mF13, ((fm_I g334 rh0 rfl).trans ((fm_I g316 rh0 rfl).trans m296)), mF14, ((fm_I g334 rh0 rfl).trans ((fm_I g316 rh0 rfl).trans m299)), mF15, ((fm_I g334 rh0 rfl).trans ((fm_I g316 rh0 rfl).trans m308)), mF18, ((fm_I g334 rh0 rfl).trans m321), mF21, m340, mF27, ((fm_J g334 rh0 rfl).trans ((fm_J g316 rh0 rfl).trans m305)), mW, and_true, true_and, true_or, or_true, false_or, or_false] <;> omega), (by intro r hr; cases hr; have hk : (1 : Int32).toInt = 1 := rfl; rw [hk]; exact z342)⟩ dX12_behindSum_232
              · refine lv_iconst (v := 2) hx hb dX12_behindSum_156 (by decide) ?_
                exact e_I E hW rfl ⟨⟨_, rfl, (by have hk : (2 : Int32).toInt = 2 := rfl; first | decide | omega)⟩, hF, (by intro r hr; cases hr; have hkr : (2 : Int32).toInt = 2 := rfl; simp only [((fm_I g54 rh0 rfl).trans ((fm_I g41 rh0 rfl).trans ((fm_I g32 rh0 rfl).trans ((fm_I g23 rh0 rfl).trans ((fm_I g14 rh0 rfl).trans ((fm_I g5 rh0 rfl).trans mF12)))))), mF12, ((fm_I g54 rh0 rfl).trans ((fm_I g41 rh0 rfl).trans ((fm_I g32 rh0 rfl).trans ((fm_I g23 rh0 rfl).trans ((fm_I g14 rh0 rfl).trans ((fm_I g5 rh0 rfl).trans mF13)))))), mF13, ((fm_I g54 rh0 rfl).trans ((fm_I g41 rh0 rfl).trans ((fm_I g32 rh0 rfl).trans ((fm_I g23 rh0 rfl).trans ((fm_I g14 rh0 rfl).trans ((fm_I g5 rh0 rfl).trans mF14)))))), mF14, ((fm_I g54 rh0 rfl).trans ((fm_I g41 rh0 rfl).trans ((fm_I g32 rh0 rfl).trans ((fm_I g23 rh0 rfl).trans ((fm_I g14 rh0 rfl).trans ((fm_I g5 rh0 rfl).trans mF15)))))), mF15, ((fm_I g54 rh0 rfl).trans ((fm_I g41 rh0 rfl).trans ((fm_I g32 rh0 rfl).trans ((fm_I g23 rh0 rfl).trans ((fm_I g14 rh0 rfl).trans ((fm_I g5 rh0 rfl).trans mF18)))))), mF18, ((fm_I g54 rh0 rfl).trans ((fm_I g41 rh0 rfl).trans ((fm_I g32 rh0 rfl).trans ((fm_I g23 rh0 rfl).trans ((fm_I g14 rh0 rfl).trans ((fm_I g5 rh0 rfl).trans mF21)))))), mF21, ((fm_I g54 rh0 rfl).trans ((fm_I g41 rh0 rfl).trans ((fm_I g32 rh0 rfl).trans ((fm_I g23 rh0 rfl).trans ((fm_I g14 rh0 rfl).trans ((fm_I g5 rh0 rfl).trans mF27)))))), mF27, ((fm_J g54 rh0 rfl).trans ((fm_J g41 rh0 rfl).trans ((fm_J g32 rh0 rfl).trans ((fm_J g23 rh0 rfl).trans ((fm_J g14 rh0 rfl).trans ((fm_J g5 rh0 rfl).trans mW)))))), mW, and_true, true_and, true_or, or_true, false_or, or_false] <;> omega), (by intro r hr; cases hr; have hk : (2 : Int32).toInt = 2 := rfl; rw [hk]; exact (gi_no31 z58 z57 (by omega) (by rw [((fm_I g54 rh0 rfl).trans ((fm_I g41 rh0 rfl).trans ((fm_I g32 rh0 rfl).trans ((fm_I g23 rh0 rfl).trans ((fm_I g14 rh0 rfl).trans ((fm_I g5 rh0 rfl).trans mF27))))))]; omega)))⟩ dX12_behindSum_157
            · refine lv_iload_n hx hb dX12_behindSum_143 rfl (lv_at hl 3 rfl) ?_
              refine q_if_ne (tgt := 149) hx hb dX12_behindSum_144 (by decide) rfl (fun c343 => ?_) (fun c343 => ?_)
              · refine lv_aload_n hx hb dX12_behindSum_149 rfl (lv_at hl 2 rfl) ?_
                have hw347 := hW.2.2.2
                refine t_callV (As := []) (rest := []) E hW (c_X12_isCompared l G cI cJ cZ cD cR cT kp L f38 hW.2.2.2 _ h0 rh0) rh0 (by decide) rfl wk_X12_isCompared tw_1890 rfl ⟨Nat.le_of_ble_eq_true rfl, Nat.le_of_ble_eq_true rfl⟩ ⟨rfl, rfl⟩ hl.1 rfl (Nat.le_of_ble_eq_true rfl) dX12_behindSum_150 ⟨Nat.le_of_ble_eq_true rfl, Nat.le_of_ble_eq_true rfl⟩ (fun v344 f345 H locs q346 hW => ?_)
                obtain ⟨⟨x349, rfl, p350⟩, g348⟩ := q346
                have z351 : innI (vP f345 h0) x43.toInt (oI (f345 h0) 27).toInt := by obtain ⟨e1, -, e3⟩ := p_keep hw347 g348 rh0 rfl; rw [e1, e3]; exact z47
                have z352 : GI f345 h0 gO gA ga (3) := gi_keep z45 hw347 g348 rh0 rfl rfl (fun q => by rw [fm_I g348 rh0 rfl]; exact q)
                have hF := FM.tr hF g348 rfl
                refine q_if_eq (tgt := 158) hx hb dX12_behindSum_153 (by decide) rfl (fun c353 => ?_) (fun c353 => ?_)
                · refine lv_aload_n hx hb dX12_behindSum_158 rfl (lv_at hl 2 rfl) ?_
                  refine lv_bipush (v := 60) hx hb dX12_behindSum_159 (by decide) ?_
                  have hw357 := hW.2.2.2
                  refine t_callV (As := [.int 60]) (rest := []) E hW (c_X12_isSign l G cI cJ cZ cD cR cT kp L f345 hW.2.2.2 _ h0 60 rh0 (by decide)) rh0 (by decide) rfl wk_X12_isSign tw_1832 rfl ⟨Nat.le_of_ble_eq_true rfl, Nat.le_of_ble_eq_true rfl⟩ ⟨rfl, rfl⟩ hl.1 rfl (Nat.le_of_ble_eq_true rfl) dX12_behindSum_161 ⟨Nat.le_of_ble_eq_true rfl, Nat.le_of_ble_eq_true rfl⟩ (fun v354 f355 H locs q356 hW => ?_)
                  obtain ⟨⟨x359, rfl, p360⟩, g358⟩ := q356
                  simp only [((fm_I g348 rh0 rfl).trans ((fm_I g41 rh0 rfl).trans ((fm_I g32 rh0 rfl).trans ((fm_I g23 rh0 rfl).trans ((fm_I g14 rh0 rfl).trans ((fm_I g5 rh0 rfl).trans mF15)))))), ((fm_J g348 rh0 rfl).trans ((fm_J g41 rh0 rfl).trans ((fm_J g32 rh0 rfl).trans ((fm_J g23 rh0 rfl).trans ((fm_J g14 rh0 rfl).trans ((fm_J g5 rh0 rfl).trans mW))))))] at p360
                  have p360 : (x359.toInt = 1 ∧ pF15.toInt = 3) ∨ x359.toInt = 0 := p360
                  have m361 : oR (f355 h0) 2 = pR := ((fm_R g358 rh0 rfl).trans ((fm_R g348 rh0 rfl).trans ((fm_R g41 rh0 rfl).trans ((fm_R g32 rh0 rfl).trans ((fm_R g23 rh0 rfl).trans ((fm_R g14 rh0 rfl).trans ((fm_R g5 rh0 rfl).trans mR)))))))
                  have m362 : oI (f355 h0) 12 = pF12 := ((fm_I g358 rh0 rfl).trans ((fm_I g348 rh0 rfl).trans ((fm_I g41 rh0 rfl).trans ((fm_I g32 rh0 rfl).trans ((fm_I g23 rh0 rfl).trans ((fm_I g14 rh0 rfl).trans ((fm_I g5 rh0 rfl).trans mF12)))))))
                  have m363 : oI (f355 h0) 13 = pF13 := ((fm_I g358 rh0 rfl).trans ((fm_I g348 rh0 rfl).trans ((fm_I g41 rh0 rfl).trans ((fm_I g32 rh0 rfl).trans ((fm_I g23 rh0 rfl).trans ((fm_I g14 rh0 rfl).trans ((fm_I g5 rh0 rfl).trans mF13)))))))
                  have m364 : oI (f355 h0) 14 = pF14 := ((fm_I g358 rh0 rfl).trans ((fm_I g348 rh0 rfl).trans ((fm_I g41 rh0 rfl).trans ((fm_I g32 rh0 rfl).trans ((fm_I g23 rh0 rfl).trans ((fm_I g14 rh0 rfl).trans ((fm_I g5 rh0 rfl).trans mF14)))))))
                  have m365 : oI (f355 h0) 15 = pF15 := ((fm_I g358 rh0 rfl).trans ((fm_I g348 rh0 rfl).trans ((fm_I g41 rh0 rfl).trans ((fm_I g32 rh0 rfl).trans ((fm_I g23 rh0 rfl).trans ((fm_I g14 rh0 rfl).trans ((fm_I g5 rh0 rfl).trans mF15)))))))
                  have m366 : oI (f355 h0) 18 = pF18 := ((fm_I g358 rh0 rfl).trans ((fm_I g348 rh0 rfl).trans ((fm_I g41 rh0 rfl).trans ((fm_I g32 rh0 rfl).trans ((fm_I g23 rh0 rfl).trans ((fm_I g14 rh0 rfl).trans ((fm_I g5 rh0 rfl).trans mF18)))))))
                  have m367 : oI (f355 h0) 21 = pF21 := ((fm_I g358 rh0 rfl).trans ((fm_I g348 rh0 rfl).trans ((fm_I g41 rh0 rfl).trans ((fm_I g32 rh0 rfl).trans ((fm_I g23 rh0 rfl).trans ((fm_I g14 rh0 rfl).trans ((fm_I g5 rh0 rfl).trans mF21)))))))
                  have m368 : oI (f355 h0) 24 = pF24 := ((fm_I g358 rh0 rfl).trans ((fm_I g348 rh0 rfl).trans ((fm_I g41 rh0 rfl).trans ((fm_I g32 rh0 rfl).trans ((fm_I g23 rh0 rfl).trans ((fm_I g14 rh0 rfl).trans ((fm_I g5 rh0 rfl).trans mF24)))))))
                  have m369 : oI (f355 h0) 27 = pF27 := ((fm_I g358 rh0 rfl).trans ((fm_I g348 rh0 rfl).trans ((fm_I g41 rh0 rfl).trans ((fm_I g32 rh0 rfl).trans ((fm_I g23 rh0 rfl).trans ((fm_I g14 rh0 rfl).trans ((fm_I g5 rh0 rfl).trans mF27)))))))
                  have m370 : oJ (f355 h0) 16 = pW := ((fm_J g358 rh0 rfl).trans ((fm_J g348 rh0 rfl).trans ((fm_J g41 rh0 rfl).trans ((fm_J g32 rh0 rfl).trans ((fm_J g23 rh0 rfl).trans ((fm_J g14 rh0 rfl).trans ((fm_J g5 rh0 rfl).trans mW)))))))
                  have z371 : innI (vP f355 h0) x43.toInt (oI (f355 h0) 27).toInt := by obtain ⟨e1, -, e3⟩ := p_keep hw357 g358 rh0 rfl; rw [e1, e3]; exact z351
                  have z372 : GI f355 h0 gO gA ga (3) := gi_keep z352 hw357 g358 rh0 rfl rfl (fun q => by rw [fm_I g358 rh0 rfl]; exact q)
                  have hF := FM.tr hF g358 rfl
                  refine q_if_eq (tgt := 172) hx hb dX12_behindSum_164 (by decide) rfl (fun c373 => ?_) (fun c373 => ?_)
                  · clear p360
                    refine lv_aload_n hx hb dX12_behindSum_172 rfl (lv_at hl 2 rfl) ?_
                    refine lv_bipush (v := 62) hx hb dX12_behindSum_173 (by decide) ?_
                    have hw377 := hW.2.2.2
                    refine t_callV (As := [.int 62]) (rest := []) E hW (c_X12_isSign l G cI cJ cZ cD cR cT kp L f355 hW.2.2.2 _ h0 62 rh0 (by decide)) rh0 (by decide) rfl wk_X12_isSign tw_1832 rfl ⟨Nat.le_of_ble_eq_true rfl, Nat.le_of_ble_eq_true rfl⟩ ⟨rfl, rfl⟩ hl.1 rfl (Nat.le_of_ble_eq_true rfl) dX12_behindSum_175 ⟨Nat.le_of_ble_eq_true rfl, Nat.le_of_ble_eq_true rfl⟩ (fun v374 f375 H locs q376 hW => ?_)
                    obtain ⟨⟨x379, rfl, p380⟩, g378⟩ := q376
                    simp only [m365, m370] at p380
                    have p380 : (x379.toInt = 1 ∧ pF15.toInt = 3) ∨ x379.toInt = 0 := p380
                    have z381 : innI (vP f375 h0) x43.toInt (oI (f375 h0) 27).toInt := by obtain ⟨e1, -, e3⟩ := p_keep hw377 g378 rh0 rfl; rw [e1, e3]; exact z371
                    have z382 : GI f375 h0 gO gA ga (3) := gi_keep z372 hw377 g378 rh0 rfl rfl (fun q => by rw [fm_I g378 rh0 rfl]; exact q)
                    have hF := FM.tr hF g378 rfl
                    refine q_if_eq (tgt := 186) hx hb dX12_behindSum_178 (by decide) rfl (fun c383 => ?_) (fun c383 => ?_)
                    · clear p380
                      refine lv_bipush (v := 26) hx hb dX12_behindSum_186 (by decide) ?_
                      refine lv_istore_n (lv' := [(2, .int 26), (3, .int x43), (0, .ref h0), (1, .int u1)]) hx hb dX12_behindSum_188 rfl hl (by decide) rfl (fun ls hl => ?_)
                      refine lv_aload_n hx hb dX12_behindSum_189 rfl (lv_at hl 2 rfl) ?_
                      refine lv_iload_n hx hb dX12_behindSum_190 rfl (lv_at hl 0 rfl) ?_
                      refine lv_bipush (v := 26) hx hb dX12_behindSum_191 (by decide) ?_
                      refine q_icmp_ne (X := 26) (Y := 26) (tgt := 205) hx hb dX12_behindSum_193 (by decide) rfl rfl (fun c => absurd c (by decide)) (fun _ => ?_)
                      refine lv_aload_n hx hb dX12_behindSum_196 rfl (lv_at hl 2 rfl) ?_
                      refine lv_bipush (v := 61) hx hb dX12_behindSum_197 (by decide) ?_
                      have hw387 := hW.2.2.2
                      refine t_callV (As := [.int 61]) (rest := [.ref h0]) E hW (c_X12_isSign l G cI cJ cZ cD cR cT kp L f375 hW.2.2.2 _ h0 61 rh0 (by decide)) rh0 (by decide) rfl wk_X12_isSign tw_1832 rfl ⟨Nat.le_of_ble_eq_true rfl, Nat.le_of_ble_eq_true rfl⟩ ⟨rfl, rfl⟩ hl.1 rfl (Nat.le_of_ble_eq_true rfl) dX12_behindSum_199 ⟨Nat.le_of_ble_eq_true rfl, Nat.le_of_ble_eq_true rfl⟩ (fun v384 f385 H locs q386 hW => ?_)
                      obtain ⟨⟨x389, rfl, p390⟩, g388⟩ := q386
                      simp only [((fm_I g378 rh0 rfl).trans m365), ((fm_J g378 rh0 rfl).trans m370)] at p390
                      have p390 : (x389.toInt = 1 ∧ pF15.toInt = 3) ∨ x389.toInt = 0 := p390
                      have z391 : innI (vP f385 h0) x43.toInt (oI (f385 h0) 27).toInt := by obtain ⟨e1, -, e3⟩ := p_keep hw387 g388 rh0 rfl; rw [e1, e3]; exact z381
                      have z392 : GI f385 h0 gO gA ga (3) := gi_keep z382 hw387 g388 rh0 rfl rfl (fun q => by rw [fm_I g388 rh0 rfl]; exact q)
                      have hF := FM.tr hF g388 rfl
                      refine q_if_eq (tgt := 209) hx hb dX12_behindSum_202 (by decide) rfl (fun c393 => ?_) (fun c393 => ?_)
                      · clear p390
                        refine lv_iconst (v := 0) hx hb dX12_behindSum_209 (by decide) ?_
                        have hw398 := hW.2.2.2
                        refine t_callV (As := [.int 0]) (rest := []) E hW (c_X12_must l G cI cJ cZ cD cR cT kp L f385 hW.2.2.2 _ h0 0 rh0 (by decide) (by have hkq394 : (0 : Int32).toInt = 0 := rfl; simp only [((fm_I g388 rh0 rfl).trans ((fm_I g378 rh0 rfl).trans m362)), ((fm_I g388 rh0 rfl).trans ((fm_I g378 rh0 rfl).trans m363)), ((fm_I g388 rh0 rfl).trans ((fm_I g378 rh0 rfl).trans m364)), ((fm_I g388 rh0 rfl).trans ((fm_I g378 rh0 rfl).trans m365)), ((fm_J g388 rh0 rfl).trans ((fm_J g378 rh0 rfl).trans m370)), and_true, true_and, true_or, or_true, false_or, or_false] <;> omega)) rh0 (by decide) rfl wk_X12_must tw_1807 rfl ⟨Nat.le_of_ble_eq_true rfl, Nat.le_of_ble_eq_true rfl⟩ ⟨rfl, rfl⟩ hl.1 rfl (Nat.le_of_ble_eq_true rfl) dX12_behindSum_210 ⟨Nat.le_of_ble_eq_true rfl, Nat.le_of_ble_eq_true rfl⟩ (fun v395 f396 H locs q397 hW => ?_)
                        obtain ⟨rfl, g399, h400⟩ := q397
                        have z401 : innI (vP f396 h0) x43.toInt (oI (f396 h0) 27).toInt := by obtain ⟨e1, -, e3⟩ := p_keep hw398 g399 rh0 rfl; rw [e1, e3]; exact z391
                        have hF := FM.tr hF g399 rfl
                        have hk402 : (0 : Int32).toInt = 0 := rfl
                        obtain ⟨y403, m404⟩ : ∃ x : Int32, oI (f396 h0) 13 = x := ⟨_, rfl⟩
                        have b405 : (0 : Int) ≤ y403.toInt ∧ y403.toInt ≤ 400 := by rw [← m404]; exact th_iv hW rh0 (by decide) (by decide) rfl
                        obtain ⟨y406, m407⟩ : ∃ x : Int32, oI (f396 h0) 14 = x := ⟨_, rfl⟩
                        have b408 : (0 : Int) ≤ y406.toInt ∧ y406.toInt ≤ 400 := by rw [← m407]; exact th_iv hW rh0 (by decide) (by decide) rfl
                        obtain ⟨y409, m410⟩ : ∃ x : Int32, oI (f396 h0) 15 = x := ⟨_, rfl⟩
                        have b411 : (0 : Int) ≤ y409.toInt ∧ y409.toInt ≤ 3 := by rw [← m410]; exact th_iv hW rh0 (by decide) (by decide) rfl
                        obtain ⟨y412, m413⟩ : ∃ x : Int32, oI (f396 h0) 18 = x := ⟨_, rfl⟩
                        have b414 : (0 : Int) ≤ y412.toInt ∧ y412.toInt ≤ 1 := by rw [← m413]; exact th_iv hW rh0 (by decide) (by decide) rfl
                        obtain ⟨y415, m416⟩ : ∃ x : Int64, oJ (f396 h0) 16 = x := ⟨_, rfl⟩
                        simp only [((fm_I g399 rh0 rfl).trans ((fm_I g388 rh0 rfl).trans ((fm_I g378 rh0 rfl).trans m362))), ((fm_I g388 rh0 rfl).trans ((fm_I g378 rh0 rfl).trans m362)), m404, ((fm_I g388 rh0 rfl).trans ((fm_I g378 rh0 rfl).trans m363)), m407, ((fm_I g388 rh0 rfl).trans ((fm_I g378 rh0 rfl).trans m364)), m410, ((fm_I g388 rh0 rfl).trans ((fm_I g378 rh0 rfl).trans m365)), m413, ((fm_I g388 rh0 rfl).trans ((fm_I g378 rh0 rfl).trans m366)), m416, ((fm_J g388 rh0 rfl).trans ((fm_J g378 rh0 rfl).trans m370))] at h400
                        have z417 : GI f396 h0 gO gA ga (3) := gi_keep z392 hw398 g399 rh0 rfl rfl (fun q => by rw [((fm_I g388 rh0 rfl).trans ((fm_I g378 rh0 rfl).trans m366))] at q; rw [m413]; omega)
                        refine lv_aload_n hx hb dX12_behindSum_213 rfl (lv_at hl 2 rfl) ?_
                        refine fg_RX12_193 E hW rh0 dX12_behindSum_214 (fun y418 m419 b420 => ?_)
                        obtain rfl : y412 = y418 := (m413).symm.trans m419
                        refine q_if_ne (tgt := 231) hx hb dX12_behindSum_217 (by decide) rfl (fun c421 => ?_) (fun c421 => ?_)
                        · refine lv_iconst (v := 1) hx hb dX12_behindSum_231 (by decide) ?_
                          exact e_I E hW rfl ⟨⟨_, rfl, (by have hk : (1 : Int32).toInt = 1 := rfl; first | decide | omega)⟩, hF, (by intro r hr; cases hr; have hkr : (1 : Int32).toInt = 1 := rfl; simp only [((fm_I g399 rh0 rfl).trans ((fm_I g388 rh0 rfl).trans ((fm_I g378 rh0 rfl).trans m362))), mF12, m404, mF13, m407, mF14, m410, mF15, m419, mF18, ((fm_I g399 rh0 rfl).trans ((fm_I g388 rh0 rfl).trans ((fm_I g378 rh0 rfl).trans m367))), mF21, ((fm_I g399 rh0 rfl).trans ((fm_I g388 rh0 rfl).trans ((fm_I g378 rh0 rfl).trans m369))), mF27, m416, mW, and_true, true_and, true_or, or_true, false_or, or_false] <;> omega), (by intro r hr; cases hr; have hk : (1 : Int32).toInt = 1 := rfl; rw [hk]; exact (Or.inl (by rw [m419]; omega)))⟩ dX12_behindSum_232
                        · refine lv_aload_n hx hb dX12_behindSum_220 rfl (lv_at hl 2 rfl) ?_
                          refine lv_iconst (v := 5) hx hb dX12_behindSum_221 (by decide) ?_
                          have hw426 := hW.2.2.2
                          refine t_callV (As := [.int 5]) (rest := []) E hW (c_X12_settle l G cI cJ cZ cD cR cT kp L f396 hW.2.2.2 _ h0 5 rh0 (by decide) (by have hkq422 : (5 : Int32).toInt = 5 := rfl; simp only [((fm_I g399 rh0 rfl).trans ((fm_I g388 rh0 rfl).trans ((fm_I g378 rh0 rfl).trans m367))), ((fm_I g399 rh0 rfl).trans ((fm_I g388 rh0 rfl).trans ((fm_I g378 rh0 rfl).trans m369))), and_true, true_and, true_or, or_true, false_or, or_false] <;> omega)) rh0 (by decide) rfl wk_X12_settle tw_1882 rfl ⟨Nat.le_of_ble_eq_true rfl, Nat.le_of_ble_eq_true rfl⟩ ⟨rfl, rfl⟩ hl.1 rfl (Nat.le_of_ble_eq_true rfl) dX12_behindSum_222 ⟨Nat.le_of_ble_eq_true rfl, Nat.le_of_ble_eq_true rfl⟩ (fun v423 f424 H locs q425 hW => ?_)
                          obtain ⟨rfl, g427, h428, h429⟩ := q425
                          have hF := FM.tr hF g427 rfl
                          have hk430 : (5 : Int32).toInt = 5 := rfl
                          obtain ⟨y431, m432⟩ : ∃ x : Int32, oI (f424 h0) 21 = x := ⟨_, rfl⟩
                          have b433 : (0 : Int) ≤ y431.toInt ∧ y431.toInt ≤ 400 := by rw [← m432]; exact th_iv hW rh0 (by decide) (by decide) rfl
                          obtain ⟨y434, m435⟩ : ∃ x : Int32, oI (f424 h0) 27 = x := ⟨_, rfl⟩
                          have b436 : (0 : Int) ≤ y434.toInt ∧ y434.toInt ≤ 400 := by rw [← m435]; exact th_iv hW rh0 (by decide) (by decide) rfl
                          simp only [m432, ((fm_I g399 rh0 rfl).trans ((fm_I g388 rh0 rfl).trans ((fm_I g378 rh0 rfl).trans m367))), m435, ((fm_I g399 rh0 rfl).trans ((fm_I g388 rh0 rfl).trans ((fm_I g378 rh0 rfl).trans m369)))] at h428
                          have z437 : GI f396 h0 gO gA ga 2 := gi_no31 z417 z401 (by omega) (by rw [((fm_I g399 rh0 rfl).trans ((fm_I g388 rh0 rfl).trans ((fm_I g378 rh0 rfl).trans m369)))]; omega)
                          have z438 : GI f424 h0 gO gA ga (2) := gi_settle z437 hw426 rh0 g427 rfl (by omega) h429.1 h429.2.1 h429.2.2.1
                          refine lv_aload_n hx hb dX12_behindSum_225 rfl (lv_at hl 2 rfl) ?_
                          refine lv_iload_n hx hb dX12_behindSum_226 rfl (lv_at hl 0 rfl) ?_
                          refine lv_iconst (v := 0) hx hb dX12_behindSum_227 (by decide) ?_
                          have hw444 := hW.2.2.2
                          refine t_callV (As := [.int 26, .int 0]) (rest := []) E hW (c_X12_push l G cI cJ cZ cD cR cT kp L f424 hW.2.2.2 _ h0 26 0 rh0 (by decide) (by decide) (by have hkq439 : (26 : Int32).toInt = 26 := rfl; have hkq440 : (0 : Int32).toInt = 0 := rfl; simp only [m435, and_true, true_and, true_or, or_true, false_or, or_false] <;> omega)) rh0 (by decide) rfl wk_X12_push tw_1828 rfl ⟨Nat.le_of_ble_eq_true rfl, Nat.le_of_ble_eq_true rfl⟩ ⟨rfl, rfl⟩ hl.1 rfl (Nat.le_of_ble_eq_true rfl) dX12_behindSum_228 ⟨Nat.le_of_ble_eq_true rfl, Nat.le_of_ble_eq_true rfl⟩ (fun v441 f442 H locs q443 hW => ?_)
                          obtain ⟨rfl, g445, h446, h447⟩ := q443
                          have hF := FM.tr hF g445 rfl
                          have hk448 : (26 : Int32).toInt = 26 := rfl
                          have hk449 : (0 : Int32).toInt = 0 := rfl
                          obtain ⟨y450, m451⟩ : ∃ x : Int32, oI (f442 h0) 27 = x := ⟨_, rfl⟩
                          have b452 : (0 : Int) ≤ y450.toInt ∧ y450.toInt ≤ 400 := by rw [← m451]; exact th_iv hW rh0 (by decide) (by decide) rfl
                          simp only [m451, m435] at h446
                          have z453 : GI f442 h0 gO gA ga (1) := gi_push z438 hw444 g445 rh0 rfl rfl (by rw [m435]; omega) h447 (by have hk : (26 : Int32).toInt = 26 := rfl; omega)
                          refine lv_iconst (v := 1) hx hb dX12_behindSum_231 (by decide) ?_
                          exact e_I E hW rfl ⟨⟨_, rfl, (by have hk : (1 : Int32).toInt = 1 := rfl; first | decide | omega)⟩, hF, (by intro r hr; cases hr; have hkr : (1 : Int32).toInt = 1 := rfl; simp only [((fm_I g445 rh0 rfl).trans ((fm_I g427 rh0 rfl).trans ((fm_I g399 rh0 rfl).trans ((fm_I g388 rh0 rfl).trans ((fm_I g378 rh0 rfl).trans m362))))), mF12, ((fm_I g445 rh0 rfl).trans ((fm_I g427 rh0 rfl).trans m404)), mF13, ((fm_I g445 rh0 rfl).trans ((fm_I g427 rh0 rfl).trans m407)), mF14, ((fm_I g445 rh0 rfl).trans ((fm_I g427 rh0 rfl).trans m410)), mF15, ((fm_I g445 rh0 rfl).trans ((fm_I g427 rh0 rfl).trans m419)), mF18, ((fm_I g445 rh0 rfl).trans m432), mF21, m451, mF27, ((fm_J g445 rh0 rfl).trans ((fm_J g427 rh0 rfl).trans m416)), mW, and_true, true_and, true_or, or_true, false_or, or_false] <;> omega), (by intro r hr; cases hr; have hk : (1 : Int32).toInt = 1 := rfl; rw [hk]; exact z453)⟩ dX12_behindSum_232
                      · have q454 : pF15.toInt = 3 := by omega
                        clear p390
                        refine lv_iconst (v := 1) hx hb dX12_behindSum_205 (by decide) ?_
                        refine lv_goto (tgt := 210) hx hb dX12_behindSum_206 (by decide) ?_
                        have hw459 := hW.2.2.2
                        refine t_callV (As := [.int 1]) (rest := []) E hW (c_X12_must l G cI cJ cZ cD cR cT kp L f385 hW.2.2.2 _ h0 1 rh0 (by decide) (by have hkq455 : (1 : Int32).toInt = 1 := rfl; simp only [((fm_I g388 rh0 rfl).trans ((fm_I g378 rh0 rfl).trans m362)), ((fm_I g388 rh0 rfl).trans ((fm_I g378 rh0 rfl).trans m363)), ((fm_I g388 rh0 rfl).trans ((fm_I g378 rh0 rfl).trans m364)), ((fm_I g388 rh0 rfl).trans ((fm_I g378 rh0 rfl).trans m365)), ((fm_J g388 rh0 rfl).trans ((fm_J g378 rh0 rfl).trans m370)), and_true, true_and, true_or, or_true, false_or, or_false] <;> omega)) rh0 (by decide) rfl wk_X12_must tw_1807 rfl ⟨Nat.le_of_ble_eq_true rfl, Nat.le_of_ble_eq_true rfl⟩ ⟨rfl, rfl⟩ hl.1 rfl (Nat.le_of_ble_eq_true rfl) dX12_behindSum_210 ⟨Nat.le_of_ble_eq_true rfl, Nat.le_of_ble_eq_true rfl⟩ (fun v456 f457 H locs q458 hW => ?_)
                        obtain ⟨rfl, g460, h461⟩ := q458
                        have z462 : innI (vP f457 h0) x43.toInt (oI (f457 h0) 27).toInt := by obtain ⟨e1, -, e3⟩ := p_keep hw459 g460 rh0 rfl; rw [e1, e3]; exact z391
                        have hF := FM.tr hF g460 rfl
                        have hk463 : (1 : Int32).toInt = 1 := rfl
                        obtain ⟨y464, m465⟩ : ∃ x : Int32, oI (f457 h0) 13 = x := ⟨_, rfl⟩
                        have b466 : (0 : Int) ≤ y464.toInt ∧ y464.toInt ≤ 400 := by rw [← m465]; exact th_iv hW rh0 (by decide) (by decide) rfl
                        obtain ⟨y467, m468⟩ : ∃ x : Int32, oI (f457 h0) 14 = x := ⟨_, rfl⟩
                        have b469 : (0 : Int) ≤ y467.toInt ∧ y467.toInt ≤ 400 := by rw [← m468]; exact th_iv hW rh0 (by decide) (by decide) rfl
                        obtain ⟨y470, m471⟩ : ∃ x : Int32, oI (f457 h0) 15 = x := ⟨_, rfl⟩
                        have b472 : (0 : Int) ≤ y470.toInt ∧ y470.toInt ≤ 3 := by rw [← m471]; exact th_iv hW rh0 (by decide) (by decide) rfl
                        obtain ⟨y473, m474⟩ : ∃ x : Int32, oI (f457 h0) 18 = x := ⟨_, rfl⟩
                        have b475 : (0 : Int) ≤ y473.toInt ∧ y473.toInt ≤ 1 := by rw [← m474]; exact th_iv hW rh0 (by decide) (by decide) rfl
                        obtain ⟨y476, m477⟩ : ∃ x : Int64, oJ (f457 h0) 16 = x := ⟨_, rfl⟩
                        simp only [((fm_I g460 rh0 rfl).trans ((fm_I g388 rh0 rfl).trans ((fm_I g378 rh0 rfl).trans m362))), ((fm_I g388 rh0 rfl).trans ((fm_I g378 rh0 rfl).trans m362)), m465, ((fm_I g388 rh0 rfl).trans ((fm_I g378 rh0 rfl).trans m363)), m468, ((fm_I g388 rh0 rfl).trans ((fm_I g378 rh0 rfl).trans m364)), m471, ((fm_I g388 rh0 rfl).trans ((fm_I g378 rh0 rfl).trans m365)), m474, ((fm_I g388 rh0 rfl).trans ((fm_I g378 rh0 rfl).trans m366)), m477, ((fm_J g388 rh0 rfl).trans ((fm_J g378 rh0 rfl).trans m370))] at h461
                        have z478 : GI f457 h0 gO gA ga (3) := gi_keep z392 hw459 g460 rh0 rfl rfl (fun q => by rw [((fm_I g388 rh0 rfl).trans ((fm_I g378 rh0 rfl).trans m366))] at q; rw [m474]; omega)
                        refine lv_aload_n hx hb dX12_behindSum_213 rfl (lv_at hl 2 rfl) ?_
                        refine fg_RX12_193 E hW rh0 dX12_behindSum_214 (fun y479 m480 b481 => ?_)
                        obtain rfl : y473 = y479 := (m474).symm.trans m480
                        refine q_if_ne (tgt := 231) hx hb dX12_behindSum_217 (by decide) rfl (fun c482 => ?_) (fun c482 => ?_)
                        · refine lv_iconst (v := 1) hx hb dX12_behindSum_231 (by decide) ?_
                          exact e_I E hW rfl ⟨⟨_, rfl, (by have hk : (1 : Int32).toInt = 1 := rfl; first | decide | omega)⟩, hF, (by intro r hr; cases hr; have hkr : (1 : Int32).toInt = 1 := rfl; simp only [((fm_I g460 rh0 rfl).trans ((fm_I g388 rh0 rfl).trans ((fm_I g378 rh0 rfl).trans m362))), mF12, m465, mF13, m468, mF14, m471, mF15, m480, mF18, ((fm_I g460 rh0 rfl).trans ((fm_I g388 rh0 rfl).trans ((fm_I g378 rh0 rfl).trans m367))), mF21, ((fm_I g460 rh0 rfl).trans ((fm_I g388 rh0 rfl).trans ((fm_I g378 rh0 rfl).trans m369))), mF27, m477, mW, and_true, true_and, true_or, or_true, false_or, or_false] <;> omega), (by intro r hr; cases hr; have hk : (1 : Int32).toInt = 1 := rfl; rw [hk]; exact (Or.inl (by rw [m480]; omega)))⟩ dX12_behindSum_232
                        · refine lv_aload_n hx hb dX12_behindSum_220 rfl (lv_at hl 2 rfl) ?_
                          refine lv_iconst (v := 5) hx hb dX12_behindSum_221 (by decide) ?_
                          have hw487 := hW.2.2.2
                          refine t_callV (As := [.int 5]) (rest := []) E hW (c_X12_settle l G cI cJ cZ cD cR cT kp L f457 hW.2.2.2 _ h0 5 rh0 (by decide) (by have hkq483 : (5 : Int32).toInt = 5 := rfl; simp only [((fm_I g460 rh0 rfl).trans ((fm_I g388 rh0 rfl).trans ((fm_I g378 rh0 rfl).trans m367))), ((fm_I g460 rh0 rfl).trans ((fm_I g388 rh0 rfl).trans ((fm_I g378 rh0 rfl).trans m369))), and_true, true_and, true_or, or_true, false_or, or_false] <;> omega)) rh0 (by decide) rfl wk_X12_settle tw_1882 rfl ⟨Nat.le_of_ble_eq_true rfl, Nat.le_of_ble_eq_true rfl⟩ ⟨rfl, rfl⟩ hl.1 rfl (Nat.le_of_ble_eq_true rfl) dX12_behindSum_222 ⟨Nat.le_of_ble_eq_true rfl, Nat.le_of_ble_eq_true rfl⟩ (fun v484 f485 H locs q486 hW => ?_)
                          obtain ⟨rfl, g488, h489, h490⟩ := q486
                          have hF := FM.tr hF g488 rfl
                          have hk491 : (5 : Int32).toInt = 5 := rfl
                          obtain ⟨y492, m493⟩ : ∃ x : Int32, oI (f485 h0) 21 = x := ⟨_, rfl⟩
                          have b494 : (0 : Int) ≤ y492.toInt ∧ y492.toInt ≤ 400 := by rw [← m493]; exact th_iv hW rh0 (by decide) (by decide) rfl
                          obtain ⟨y495, m496⟩ : ∃ x : Int32, oI (f485 h0) 27 = x := ⟨_, rfl⟩
                          have b497 : (0 : Int) ≤ y495.toInt ∧ y495.toInt ≤ 400 := by rw [← m496]; exact th_iv hW rh0 (by decide) (by decide) rfl
                          simp only [m493, ((fm_I g460 rh0 rfl).trans ((fm_I g388 rh0 rfl).trans ((fm_I g378 rh0 rfl).trans m367))), m496, ((fm_I g460 rh0 rfl).trans ((fm_I g388 rh0 rfl).trans ((fm_I g378 rh0 rfl).trans m369)))] at h489
                          have z498 : GI f457 h0 gO gA ga 2 := gi_no31 z478 z462 (by omega) (by rw [((fm_I g460 rh0 rfl).trans ((fm_I g388 rh0 rfl).trans ((fm_I g378 rh0 rfl).trans m369)))]; omega)
                          have z499 : GI f485 h0 gO gA ga (2) := gi_settle z498 hw487 rh0 g488 rfl (by omega) h490.1 h490.2.1 h490.2.2.1
                          refine lv_aload_n hx hb dX12_behindSum_225 rfl (lv_at hl 2 rfl) ?_
                          refine lv_iload_n hx hb dX12_behindSum_226 rfl (lv_at hl 0 rfl) ?_
                          refine lv_iconst (v := 0) hx hb dX12_behindSum_227 (by decide) ?_
                          have hw505 := hW.2.2.2
                          refine t_callV (As := [.int 26, .int 0]) (rest := []) E hW (c_X12_push l G cI cJ cZ cD cR cT kp L f485 hW.2.2.2 _ h0 26 0 rh0 (by decide) (by decide) (by have hkq500 : (26 : Int32).toInt = 26 := rfl; have hkq501 : (0 : Int32).toInt = 0 := rfl; simp only [m496, and_true, true_and, true_or, or_true, false_or, or_false] <;> omega)) rh0 (by decide) rfl wk_X12_push tw_1828 rfl ⟨Nat.le_of_ble_eq_true rfl, Nat.le_of_ble_eq_true rfl⟩ ⟨rfl, rfl⟩ hl.1 rfl (Nat.le_of_ble_eq_true rfl) dX12_behindSum_228 ⟨Nat.le_of_ble_eq_true rfl, Nat.le_of_ble_eq_true rfl⟩ (fun v502 f503 H locs q504 hW => ?_)
                          obtain ⟨rfl, g506, h507, h508⟩ := q504
                          have hF := FM.tr hF g506 rfl
                          have hk509 : (26 : Int32).toInt = 26 := rfl
                          have hk510 : (0 : Int32).toInt = 0 := rfl
                          obtain ⟨y511, m512⟩ : ∃ x : Int32, oI (f503 h0) 27 = x := ⟨_, rfl⟩
                          have b513 : (0 : Int) ≤ y511.toInt ∧ y511.toInt ≤ 400 := by rw [← m512]; exact th_iv hW rh0 (by decide) (by decide) rfl
                          simp only [m512, m496] at h507
                          have z514 : GI f503 h0 gO gA ga (1) := gi_push z499 hw505 g506 rh0 rfl rfl (by rw [m496]; omega) h508 (by have hk : (26 : Int32).toInt = 26 := rfl; omega)
                          refine lv_iconst (v := 1) hx hb dX12_behindSum_231 (by decide) ?_
                          exact e_I E hW rfl ⟨⟨_, rfl, (by have hk : (1 : Int32).toInt = 1 := rfl; first | decide | omega)⟩, hF, (by intro r hr; cases hr; have hkr : (1 : Int32).toInt = 1 := rfl; simp only [((fm_I g506 rh0 rfl).trans ((fm_I g488 rh0 rfl).trans ((fm_I g460 rh0 rfl).trans ((fm_I g388 rh0 rfl).trans ((fm_I g378 rh0 rfl).trans m362))))), mF12, ((fm_I g506 rh0 rfl).trans ((fm_I g488 rh0 rfl).trans m465)), mF13, ((fm_I g506 rh0 rfl).trans ((fm_I g488 rh0 rfl).trans m468)), mF14, ((fm_I g506 rh0 rfl).trans ((fm_I g488 rh0 rfl).trans m471)), mF15, ((fm_I g506 rh0 rfl).trans ((fm_I g488 rh0 rfl).trans m480)), mF18, ((fm_I g506 rh0 rfl).trans m493), mF21, m512, mF27, ((fm_J g506 rh0 rfl).trans ((fm_J g488 rh0 rfl).trans m477)), mW, and_true, true_and, true_or, or_true, false_or, or_false] <;> omega), (by intro r hr; cases hr; have hk : (1 : Int32).toInt = 1 := rfl; rw [hk]; exact z514)⟩ dX12_behindSum_232
                    · have q515 : pF15.toInt = 3 := by omega
                      clear p380
                      refine lv_bipush (v := 25) hx hb dX12_behindSum_181 (by decide) ?_
                      refine lv_goto (tgt := 188) hx hb dX12_behindSum_183 (by decide) ?_
                      refine lv_istore_n (lv' := [(2, .int 25), (3, .int x43), (0, .ref h0), (1, .int u1)]) hx hb dX12_behindSum_188 rfl hl (by decide) rfl (fun ls hl => ?_)
                      refine lv_aload_n hx hb dX12_behindSum_189 rfl (lv_at hl 2 rfl) ?_
                      refine lv_iload_n hx hb dX12_behindSum_190 rfl (lv_at hl 0 rfl) ?_
                      refine lv_bipush (v := 26) hx hb dX12_behindSum_191 (by decide) ?_
                      refine q_icmp_ne (X := 25) (Y := 26) (tgt := 205) hx hb dX12_behindSum_193 (by decide) rfl rfl (fun _ => ?_) (fun c => absurd c (by decide))
                      refine lv_iconst (v := 1) hx hb dX12_behindSum_205 (by decide) ?_
                      refine lv_goto (tgt := 210) hx hb dX12_behindSum_206 (by decide) ?_
                      have hw520 := hW.2.2.2
                      refine t_callV (As := [.int 1]) (rest := []) E hW (c_X12_must l G cI cJ cZ cD cR cT kp L f375 hW.2.2.2 _ h0 1 rh0 (by decide) (by have hkq516 : (1 : Int32).toInt = 1 := rfl; simp only [((fm_I g378 rh0 rfl).trans m362), ((fm_I g378 rh0 rfl).trans m363), ((fm_I g378 rh0 rfl).trans m364), ((fm_I g378 rh0 rfl).trans m365), ((fm_J g378 rh0 rfl).trans m370), and_true, true_and, true_or, or_true, false_or, or_false] <;> omega)) rh0 (by decide) rfl wk_X12_must tw_1807 rfl ⟨Nat.le_of_ble_eq_true rfl, Nat.le_of_ble_eq_true rfl⟩ ⟨rfl, rfl⟩ hl.1 rfl (Nat.le_of_ble_eq_true rfl) dX12_behindSum_210 ⟨Nat.le_of_ble_eq_true rfl, Nat.le_of_ble_eq_true rfl⟩ (fun v517 f518 H locs q519 hW => ?_)
                      obtain ⟨rfl, g521, h522⟩ := q519
                      have z523 : innI (vP f518 h0) x43.toInt (oI (f518 h0) 27).toInt := by obtain ⟨e1, -, e3⟩ := p_keep hw520 g521 rh0 rfl; rw [e1, e3]; exact z381
                      have hF := FM.tr hF g521 rfl
                      have hk524 : (1 : Int32).toInt = 1 := rfl
                      obtain ⟨y525, m526⟩ : ∃ x : Int32, oI (f518 h0) 13 = x := ⟨_, rfl⟩
                      have b527 : (0 : Int) ≤ y525.toInt ∧ y525.toInt ≤ 400 := by rw [← m526]; exact th_iv hW rh0 (by decide) (by decide) rfl
                      obtain ⟨y528, m529⟩ : ∃ x : Int32, oI (f518 h0) 14 = x := ⟨_, rfl⟩
                      have b530 : (0 : Int) ≤ y528.toInt ∧ y528.toInt ≤ 400 := by rw [← m529]; exact th_iv hW rh0 (by decide) (by decide) rfl
                      obtain ⟨y531, m532⟩ : ∃ x : Int32, oI (f518 h0) 15 = x := ⟨_, rfl⟩
                      have b533 : (0 : Int) ≤ y531.toInt ∧ y531.toInt ≤ 3 := by rw [← m532]; exact th_iv hW rh0 (by decide) (by decide) rfl
                      obtain ⟨y534, m535⟩ : ∃ x : Int32, oI (f518 h0) 18 = x := ⟨_, rfl⟩
                      have b536 : (0 : Int) ≤ y534.toInt ∧ y534.toInt ≤ 1 := by rw [← m535]; exact th_iv hW rh0 (by decide) (by decide) rfl
                      obtain ⟨y537, m538⟩ : ∃ x : Int64, oJ (f518 h0) 16 = x := ⟨_, rfl⟩
                      simp only [((fm_I g521 rh0 rfl).trans ((fm_I g378 rh0 rfl).trans m362)), ((fm_I g378 rh0 rfl).trans m362), m526, ((fm_I g378 rh0 rfl).trans m363), m529, ((fm_I g378 rh0 rfl).trans m364), m532, ((fm_I g378 rh0 rfl).trans m365), m535, ((fm_I g378 rh0 rfl).trans m366), m538, ((fm_J g378 rh0 rfl).trans m370)] at h522
                      have z539 : GI f518 h0 gO gA ga (3) := gi_keep z382 hw520 g521 rh0 rfl rfl (fun q => by rw [((fm_I g378 rh0 rfl).trans m366)] at q; rw [m535]; omega)
                      refine lv_aload_n hx hb dX12_behindSum_213 rfl (lv_at hl 2 rfl) ?_
                      refine fg_RX12_193 E hW rh0 dX12_behindSum_214 (fun y540 m541 b542 => ?_)
                      obtain rfl : y534 = y540 := (m535).symm.trans m541
                      refine q_if_ne (tgt := 231) hx hb dX12_behindSum_217 (by decide) rfl (fun c543 => ?_) (fun c543 => ?_)
                      · refine lv_iconst (v := 1) hx hb dX12_behindSum_231 (by decide) ?_
                        exact e_I E hW rfl ⟨⟨_, rfl, (by have hk : (1 : Int32).toInt = 1 := rfl; first | decide | omega)⟩, hF, (by intro r hr; cases hr; have hkr : (1 : Int32).toInt = 1 := rfl; simp only [((fm_I g521 rh0 rfl).trans ((fm_I g378 rh0 rfl).trans m362)), mF12, m526, mF13, m529, mF14, m532, mF15, m541, mF18, ((fm_I g521 rh0 rfl).trans ((fm_I g378 rh0 rfl).trans m367)), mF21, ((fm_I g521 rh0 rfl).trans ((fm_I g378 rh0 rfl).trans m369)), mF27, m538, mW, and_true, true_and, true_or, or_true, false_or, or_false] <;> omega), (by intro r hr; cases hr; have hk : (1 : Int32).toInt = 1 := rfl; rw [hk]; exact (Or.inl (by rw [m541]; omega)))⟩ dX12_behindSum_232
                      · refine lv_aload_n hx hb dX12_behindSum_220 rfl (lv_at hl 2 rfl) ?_
                        refine lv_iconst (v := 5) hx hb dX12_behindSum_221 (by decide) ?_
                        have hw548 := hW.2.2.2
                        refine t_callV (As := [.int 5]) (rest := []) E hW (c_X12_settle l G cI cJ cZ cD cR cT kp L f518 hW.2.2.2 _ h0 5 rh0 (by decide) (by have hkq544 : (5 : Int32).toInt = 5 := rfl; simp only [((fm_I g521 rh0 rfl).trans ((fm_I g378 rh0 rfl).trans m367)), ((fm_I g521 rh0 rfl).trans ((fm_I g378 rh0 rfl).trans m369)), and_true, true_and, true_or, or_true, false_or, or_false] <;> omega)) rh0 (by decide) rfl wk_X12_settle tw_1882 rfl ⟨Nat.le_of_ble_eq_true rfl, Nat.le_of_ble_eq_true rfl⟩ ⟨rfl, rfl⟩ hl.1 rfl (Nat.le_of_ble_eq_true rfl) dX12_behindSum_222 ⟨Nat.le_of_ble_eq_true rfl, Nat.le_of_ble_eq_true rfl⟩ (fun v545 f546 H locs q547 hW => ?_)
                        obtain ⟨rfl, g549, h550, h551⟩ := q547
                        have hF := FM.tr hF g549 rfl
                        have hk552 : (5 : Int32).toInt = 5 := rfl
                        obtain ⟨y553, m554⟩ : ∃ x : Int32, oI (f546 h0) 21 = x := ⟨_, rfl⟩
                        have b555 : (0 : Int) ≤ y553.toInt ∧ y553.toInt ≤ 400 := by rw [← m554]; exact th_iv hW rh0 (by decide) (by decide) rfl
                        obtain ⟨y556, m557⟩ : ∃ x : Int32, oI (f546 h0) 27 = x := ⟨_, rfl⟩
                        have b558 : (0 : Int) ≤ y556.toInt ∧ y556.toInt ≤ 400 := by rw [← m557]; exact th_iv hW rh0 (by decide) (by decide) rfl
                        simp only [m554, ((fm_I g521 rh0 rfl).trans ((fm_I g378 rh0 rfl).trans m367)), m557, ((fm_I g521 rh0 rfl).trans ((fm_I g378 rh0 rfl).trans m369))] at h550
                        have z559 : GI f518 h0 gO gA ga 2 := gi_no31 z539 z523 (by omega) (by rw [((fm_I g521 rh0 rfl).trans ((fm_I g378 rh0 rfl).trans m369))]; omega)
                        have z560 : GI f546 h0 gO gA ga (2) := gi_settle z559 hw548 rh0 g549 rfl (by omega) h551.1 h551.2.1 h551.2.2.1
                        refine lv_aload_n hx hb dX12_behindSum_225 rfl (lv_at hl 2 rfl) ?_
                        refine lv_iload_n hx hb dX12_behindSum_226 rfl (lv_at hl 0 rfl) ?_
                        refine lv_iconst (v := 0) hx hb dX12_behindSum_227 (by decide) ?_
                        have hw566 := hW.2.2.2
                        refine t_callV (As := [.int 25, .int 0]) (rest := []) E hW (c_X12_push l G cI cJ cZ cD cR cT kp L f546 hW.2.2.2 _ h0 25 0 rh0 (by decide) (by decide) (by have hkq561 : (25 : Int32).toInt = 25 := rfl; have hkq562 : (0 : Int32).toInt = 0 := rfl; simp only [m557, and_true, true_and, true_or, or_true, false_or, or_false] <;> omega)) rh0 (by decide) rfl wk_X12_push tw_1828 rfl ⟨Nat.le_of_ble_eq_true rfl, Nat.le_of_ble_eq_true rfl⟩ ⟨rfl, rfl⟩ hl.1 rfl (Nat.le_of_ble_eq_true rfl) dX12_behindSum_228 ⟨Nat.le_of_ble_eq_true rfl, Nat.le_of_ble_eq_true rfl⟩ (fun v563 f564 H locs q565 hW => ?_)
                        obtain ⟨rfl, g567, h568, h569⟩ := q565
                        have hF := FM.tr hF g567 rfl
                        have hk570 : (25 : Int32).toInt = 25 := rfl
                        have hk571 : (0 : Int32).toInt = 0 := rfl
                        obtain ⟨y572, m573⟩ : ∃ x : Int32, oI (f564 h0) 27 = x := ⟨_, rfl⟩
                        have b574 : (0 : Int) ≤ y572.toInt ∧ y572.toInt ≤ 400 := by rw [← m573]; exact th_iv hW rh0 (by decide) (by decide) rfl
                        simp only [m573, m557] at h568
                        have z575 : GI f564 h0 gO gA ga (1) := gi_push z560 hw566 g567 rh0 rfl rfl (by rw [m557]; omega) h569 (by have hk : (25 : Int32).toInt = 25 := rfl; omega)
                        refine lv_iconst (v := 1) hx hb dX12_behindSum_231 (by decide) ?_
                        exact e_I E hW rfl ⟨⟨_, rfl, (by have hk : (1 : Int32).toInt = 1 := rfl; first | decide | omega)⟩, hF, (by intro r hr; cases hr; have hkr : (1 : Int32).toInt = 1 := rfl; simp only [((fm_I g567 rh0 rfl).trans ((fm_I g549 rh0 rfl).trans ((fm_I g521 rh0 rfl).trans ((fm_I g378 rh0 rfl).trans m362)))), mF12, ((fm_I g567 rh0 rfl).trans ((fm_I g549 rh0 rfl).trans m526)), mF13, ((fm_I g567 rh0 rfl).trans ((fm_I g549 rh0 rfl).trans m529)), mF14, ((fm_I g567 rh0 rfl).trans ((fm_I g549 rh0 rfl).trans m532)), mF15, ((fm_I g567 rh0 rfl).trans ((fm_I g549 rh0 rfl).trans m541)), mF18, ((fm_I g567 rh0 rfl).trans m554), mF21, m573, mF27, ((fm_J g567 rh0 rfl).trans ((fm_J g549 rh0 rfl).trans m538)), mW, and_true, true_and, true_or, or_true, false_or, or_false] <;> omega), (by intro r hr; cases hr; have hk : (1 : Int32).toInt = 1 := rfl; rw [hk]; exact z575)⟩ dX12_behindSum_232
                  · have q576 : pF15.toInt = 3 := by omega
                    clear p360
                    refine lv_bipush (v := 24) hx hb dX12_behindSum_167 (by decide) ?_
                    refine lv_goto (tgt := 188) hx hb dX12_behindSum_169 (by decide) ?_
                    refine lv_istore_n (lv' := [(2, .int 24), (3, .int x43), (0, .ref h0), (1, .int u1)]) hx hb dX12_behindSum_188 rfl hl (by decide) rfl (fun ls hl => ?_)
                    refine lv_aload_n hx hb dX12_behindSum_189 rfl (lv_at hl 2 rfl) ?_
                    refine lv_iload_n hx hb dX12_behindSum_190 rfl (lv_at hl 0 rfl) ?_
                    refine lv_bipush (v := 26) hx hb dX12_behindSum_191 (by decide) ?_
                    refine q_icmp_ne (X := 24) (Y := 26) (tgt := 205) hx hb dX12_behindSum_193 (by decide) rfl rfl (fun _ => ?_) (fun c => absurd c (by decide))
                    refine lv_iconst (v := 1) hx hb dX12_behindSum_205 (by decide) ?_
                    refine lv_goto (tgt := 210) hx hb dX12_behindSum_206 (by decide) ?_
                    have hw581 := hW.2.2.2
                    refine t_callV (As := [.int 1]) (rest := []) E hW (c_X12_must l G cI cJ cZ cD cR cT kp L f355 hW.2.2.2 _ h0 1 rh0 (by decide) (by have hkq577 : (1 : Int32).toInt = 1 := rfl; simp only [m362, m363, m364, m365, m370, and_true, true_and, true_or, or_true, false_or, or_false] <;> omega)) rh0 (by decide) rfl wk_X12_must tw_1807 rfl ⟨Nat.le_of_ble_eq_true rfl, Nat.le_of_ble_eq_true rfl⟩ ⟨rfl, rfl⟩ hl.1 rfl (Nat.le_of_ble_eq_true rfl) dX12_behindSum_210 ⟨Nat.le_of_ble_eq_true rfl, Nat.le_of_ble_eq_true rfl⟩ (fun v578 f579 H locs q580 hW => ?_)
                    obtain ⟨rfl, g582, h583⟩ := q580
                    have z584 : innI (vP f579 h0) x43.toInt (oI (f579 h0) 27).toInt := by obtain ⟨e1, -, e3⟩ := p_keep hw581 g582 rh0 rfl; rw [e1, e3]; exact z371
                    have hF := FM.tr hF g582 rfl
                    have hk585 : (1 : Int32).toInt = 1 := rfl
                    obtain ⟨y586, m587⟩ : ∃ x : Int32, oI (f579 h0) 13 = x := ⟨_, rfl⟩
                    have b588 : (0 : Int) ≤ y586.toInt ∧ y586.toInt ≤ 400 := by rw [← m587]; exact th_iv hW rh0 (by decide) (by decide) rfl
                    obtain ⟨y589, m590⟩ : ∃ x : Int32, oI (f579 h0) 14 = x := ⟨_, rfl⟩
                    have b591 : (0 : Int) ≤ y589.toInt ∧ y589.toInt ≤ 400 := by rw [← m590]; exact th_iv hW rh0 (by decide) (by decide) rfl
                    obtain ⟨y592, m593⟩ : ∃ x : Int32, oI (f579 h0) 15 = x := ⟨_, rfl⟩
                    have b594 : (0 : Int) ≤ y592.toInt ∧ y592.toInt ≤ 3 := by rw [← m593]; exact th_iv hW rh0 (by decide) (by decide) rfl
                    obtain ⟨y595, m596⟩ : ∃ x : Int32, oI (f579 h0) 18 = x := ⟨_, rfl⟩
                    have b597 : (0 : Int) ≤ y595.toInt ∧ y595.toInt ≤ 1 := by rw [← m596]; exact th_iv hW rh0 (by decide) (by decide) rfl
                    obtain ⟨y598, m599⟩ : ∃ x : Int64, oJ (f579 h0) 16 = x := ⟨_, rfl⟩
                    simp only [((fm_I g582 rh0 rfl).trans m362), m362, m587, m363, m590, m364, m593, m365, m596, m366, m599, m370] at h583
                    have z600 : GI f579 h0 gO gA ga (3) := gi_keep z372 hw581 g582 rh0 rfl rfl (fun q => by rw [m366] at q; rw [m596]; omega)
                    refine lv_aload_n hx hb dX12_behindSum_213 rfl (lv_at hl 2 rfl) ?_
                    refine fg_RX12_193 E hW rh0 dX12_behindSum_214 (fun y601 m602 b603 => ?_)
                    obtain rfl : y595 = y601 := (m596).symm.trans m602
                    refine q_if_ne (tgt := 231) hx hb dX12_behindSum_217 (by decide) rfl (fun c604 => ?_) (fun c604 => ?_)
                    · refine lv_iconst (v := 1) hx hb dX12_behindSum_231 (by decide) ?_
                      exact e_I E hW rfl ⟨⟨_, rfl, (by have hk : (1 : Int32).toInt = 1 := rfl; first | decide | omega)⟩, hF, (by intro r hr; cases hr; have hkr : (1 : Int32).toInt = 1 := rfl; simp only [((fm_I g582 rh0 rfl).trans m362), mF12, m587, mF13, m590, mF14, m593, mF15, m602, mF18, ((fm_I g582 rh0 rfl).trans m367), mF21, ((fm_I g582 rh0 rfl).trans m369), mF27, m599, mW, and_true, true_and, true_or, or_true, false_or, or_false] <;> omega), (by intro r hr; cases hr; have hk : (1 : Int32).toInt = 1 := rfl; rw [hk]; exact (Or.inl (by rw [m602]; omega)))⟩ dX12_behindSum_232
                    · refine lv_aload_n hx hb dX12_behindSum_220 rfl (lv_at hl 2 rfl) ?_
                      refine lv_iconst (v := 5) hx hb dX12_behindSum_221 (by decide) ?_
                      have hw609 := hW.2.2.2
                      refine t_callV (As := [.int 5]) (rest := []) E hW (c_X12_settle l G cI cJ cZ cD cR cT kp L f579 hW.2.2.2 _ h0 5 rh0 (by decide) (by have hkq605 : (5 : Int32).toInt = 5 := rfl; simp only [((fm_I g582 rh0 rfl).trans m367), ((fm_I g582 rh0 rfl).trans m369), and_true, true_and, true_or, or_true, false_or, or_false] <;> omega)) rh0 (by decide) rfl wk_X12_settle tw_1882 rfl ⟨Nat.le_of_ble_eq_true rfl, Nat.le_of_ble_eq_true rfl⟩ ⟨rfl, rfl⟩ hl.1 rfl (Nat.le_of_ble_eq_true rfl) dX12_behindSum_222 ⟨Nat.le_of_ble_eq_true rfl, Nat.le_of_ble_eq_true rfl⟩ (fun v606 f607 H locs q608 hW => ?_)
                      obtain ⟨rfl, g610, h611, h612⟩ := q608
                      have hF := FM.tr hF g610 rfl
                      have hk613 : (5 : Int32).toInt = 5 := rfl
                      obtain ⟨y614, m615⟩ : ∃ x : Int32, oI (f607 h0) 21 = x := ⟨_, rfl⟩
                      have b616 : (0 : Int) ≤ y614.toInt ∧ y614.toInt ≤ 400 := by rw [← m615]; exact th_iv hW rh0 (by decide) (by decide) rfl
                      obtain ⟨y617, m618⟩ : ∃ x : Int32, oI (f607 h0) 27 = x := ⟨_, rfl⟩
                      have b619 : (0 : Int) ≤ y617.toInt ∧ y617.toInt ≤ 400 := by rw [← m618]; exact th_iv hW rh0 (by decide) (by decide) rfl
                      simp only [m615, ((fm_I g582 rh0 rfl).trans m367), m618, ((fm_I g582 rh0 rfl).trans m369)] at h611
                      have z620 : GI f579 h0 gO gA ga 2 := gi_no31 z600 z584 (by omega) (by rw [((fm_I g582 rh0 rfl).trans m369)]; omega)
                      have z621 : GI f607 h0 gO gA ga (2) := gi_settle z620 hw609 rh0 g610 rfl (by omega) h612.1 h612.2.1 h612.2.2.1
                      refine lv_aload_n hx hb dX12_behindSum_225 rfl (lv_at hl 2 rfl) ?_
                      refine lv_iload_n hx hb dX12_behindSum_226 rfl (lv_at hl 0 rfl) ?_
                      refine lv_iconst (v := 0) hx hb dX12_behindSum_227 (by decide) ?_
                      have hw627 := hW.2.2.2
                      refine t_callV (As := [.int 24, .int 0]) (rest := []) E hW (c_X12_push l G cI cJ cZ cD cR cT kp L f607 hW.2.2.2 _ h0 24 0 rh0 (by decide) (by decide) (by have hkq622 : (24 : Int32).toInt = 24 := rfl; have hkq623 : (0 : Int32).toInt = 0 := rfl; simp only [m618, and_true, true_and, true_or, or_true, false_or, or_false] <;> omega)) rh0 (by decide) rfl wk_X12_push tw_1828 rfl ⟨Nat.le_of_ble_eq_true rfl, Nat.le_of_ble_eq_true rfl⟩ ⟨rfl, rfl⟩ hl.1 rfl (Nat.le_of_ble_eq_true rfl) dX12_behindSum_228 ⟨Nat.le_of_ble_eq_true rfl, Nat.le_of_ble_eq_true rfl⟩ (fun v624 f625 H locs q626 hW => ?_)
                      obtain ⟨rfl, g628, h629, h630⟩ := q626
                      have hF := FM.tr hF g628 rfl
                      have hk631 : (24 : Int32).toInt = 24 := rfl
                      have hk632 : (0 : Int32).toInt = 0 := rfl
                      obtain ⟨y633, m634⟩ : ∃ x : Int32, oI (f625 h0) 27 = x := ⟨_, rfl⟩
                      have b635 : (0 : Int) ≤ y633.toInt ∧ y633.toInt ≤ 400 := by rw [← m634]; exact th_iv hW rh0 (by decide) (by decide) rfl
                      simp only [m634, m618] at h629
                      have z636 : GI f625 h0 gO gA ga (1) := gi_push z621 hw627 g628 rh0 rfl rfl (by rw [m618]; omega) h630 (by have hk : (24 : Int32).toInt = 24 := rfl; omega)
                      refine lv_iconst (v := 1) hx hb dX12_behindSum_231 (by decide) ?_
                      exact e_I E hW rfl ⟨⟨_, rfl, (by have hk : (1 : Int32).toInt = 1 := rfl; first | decide | omega)⟩, hF, (by intro r hr; cases hr; have hkr : (1 : Int32).toInt = 1 := rfl; simp only [((fm_I g628 rh0 rfl).trans ((fm_I g610 rh0 rfl).trans ((fm_I g582 rh0 rfl).trans m362))), mF12, ((fm_I g628 rh0 rfl).trans ((fm_I g610 rh0 rfl).trans m587)), mF13, ((fm_I g628 rh0 rfl).trans ((fm_I g610 rh0 rfl).trans m590)), mF14, ((fm_I g628 rh0 rfl).trans ((fm_I g610 rh0 rfl).trans m593)), mF15, ((fm_I g628 rh0 rfl).trans ((fm_I g610 rh0 rfl).trans m602)), mF18, ((fm_I g628 rh0 rfl).trans m615), mF21, m634, mF27, ((fm_J g628 rh0 rfl).trans ((fm_J g610 rh0 rfl).trans m599)), mW, and_true, true_and, true_or, or_true, false_or, or_false] <;> omega), (by intro r hr; cases hr; have hk : (1 : Int32).toInt = 1 := rfl; rw [hk]; exact z636)⟩ dX12_behindSum_232
                · refine lv_iconst (v := 2) hx hb dX12_behindSum_156 (by decide) ?_
                  exact e_I E hW rfl ⟨⟨_, rfl, (by have hk : (2 : Int32).toInt = 2 := rfl; first | decide | omega)⟩, hF, (by intro r hr; cases hr; have hkr : (2 : Int32).toInt = 2 := rfl; simp only [((fm_I g348 rh0 rfl).trans ((fm_I g41 rh0 rfl).trans ((fm_I g32 rh0 rfl).trans ((fm_I g23 rh0 rfl).trans ((fm_I g14 rh0 rfl).trans ((fm_I g5 rh0 rfl).trans mF12)))))), mF12, ((fm_I g348 rh0 rfl).trans ((fm_I g41 rh0 rfl).trans ((fm_I g32 rh0 rfl).trans ((fm_I g23 rh0 rfl).trans ((fm_I g14 rh0 rfl).trans ((fm_I g5 rh0 rfl).trans mF13)))))), mF13, ((fm_I g348 rh0 rfl).trans ((fm_I g41 rh0 rfl).trans ((fm_I g32 rh0 rfl).trans ((fm_I g23 rh0 rfl).trans ((fm_I g14 rh0 rfl).trans ((fm_I g5 rh0 rfl).trans mF14)))))), mF14, ((fm_I g348 rh0 rfl).trans ((fm_I g41 rh0 rfl).trans ((fm_I g32 rh0 rfl).trans ((fm_I g23 rh0 rfl).trans ((fm_I g14 rh0 rfl).trans ((fm_I g5 rh0 rfl).trans mF15)))))), mF15, ((fm_I g348 rh0 rfl).trans ((fm_I g41 rh0 rfl).trans ((fm_I g32 rh0 rfl).trans ((fm_I g23 rh0 rfl).trans ((fm_I g14 rh0 rfl).trans ((fm_I g5 rh0 rfl).trans mF18)))))), mF18, ((fm_I g348 rh0 rfl).trans ((fm_I g41 rh0 rfl).trans ((fm_I g32 rh0 rfl).trans ((fm_I g23 rh0 rfl).trans ((fm_I g14 rh0 rfl).trans ((fm_I g5 rh0 rfl).trans mF21)))))), mF21, ((fm_I g348 rh0 rfl).trans ((fm_I g41 rh0 rfl).trans ((fm_I g32 rh0 rfl).trans ((fm_I g23 rh0 rfl).trans ((fm_I g14 rh0 rfl).trans ((fm_I g5 rh0 rfl).trans mF27)))))), mF27, ((fm_J g348 rh0 rfl).trans ((fm_J g41 rh0 rfl).trans ((fm_J g32 rh0 rfl).trans ((fm_J g23 rh0 rfl).trans ((fm_J g14 rh0 rfl).trans ((fm_J g5 rh0 rfl).trans mW)))))), mW, and_true, true_and, true_or, or_true, false_or, or_false] <;> omega), (by intro r hr; cases hr; have hk : (2 : Int32).toInt = 2 := rfl; rw [hk]; exact (gi_no31 z352 z351 (by omega) (by rw [((fm_I g348 rh0 rfl).trans ((fm_I g41 rh0 rfl).trans ((fm_I g32 rh0 rfl).trans ((fm_I g23 rh0 rfl).trans ((fm_I g14 rh0 rfl).trans ((fm_I g5 rh0 rfl).trans mF27))))))]; omega)))⟩ dX12_behindSum_157
              · refine lv_iconst (v := 4) hx hb dX12_behindSum_147 (by decide) ?_
                exact e_I E hW rfl ⟨⟨_, rfl, (by have hk : (4 : Int32).toInt = 4 := rfl; first | decide | omega)⟩, hF, (by intro r hr; cases hr; have hkr : (4 : Int32).toInt = 4 := rfl; simp only [((fm_I g41 rh0 rfl).trans ((fm_I g32 rh0 rfl).trans ((fm_I g23 rh0 rfl).trans ((fm_I g14 rh0 rfl).trans ((fm_I g5 rh0 rfl).trans mF12))))), mF12, ((fm_I g41 rh0 rfl).trans ((fm_I g32 rh0 rfl).trans ((fm_I g23 rh0 rfl).trans ((fm_I g14 rh0 rfl).trans ((fm_I g5 rh0 rfl).trans mF13))))), mF13, ((fm_I g41 rh0 rfl).trans ((fm_I g32 rh0 rfl).trans ((fm_I g23 rh0 rfl).trans ((fm_I g14 rh0 rfl).trans ((fm_I g5 rh0 rfl).trans mF14))))), mF14, ((fm_I g41 rh0 rfl).trans ((fm_I g32 rh0 rfl).trans ((fm_I g23 rh0 rfl).trans ((fm_I g14 rh0 rfl).trans ((fm_I g5 rh0 rfl).trans mF15))))), mF15, ((fm_I g41 rh0 rfl).trans ((fm_I g32 rh0 rfl).trans ((fm_I g23 rh0 rfl).trans ((fm_I g14 rh0 rfl).trans ((fm_I g5 rh0 rfl).trans mF18))))), mF18, ((fm_I g41 rh0 rfl).trans ((fm_I g32 rh0 rfl).trans ((fm_I g23 rh0 rfl).trans ((fm_I g14 rh0 rfl).trans ((fm_I g5 rh0 rfl).trans mF21))))), mF21, ((fm_I g41 rh0 rfl).trans ((fm_I g32 rh0 rfl).trans ((fm_I g23 rh0 rfl).trans ((fm_I g14 rh0 rfl).trans ((fm_I g5 rh0 rfl).trans mF27))))), mF27, ((fm_J g41 rh0 rfl).trans ((fm_J g32 rh0 rfl).trans ((fm_J g23 rh0 rfl).trans ((fm_J g14 rh0 rfl).trans ((fm_J g5 rh0 rfl).trans mW))))), mW, and_true, true_and, true_or, or_true, false_or, or_false] <;> omega), (by intro r hr; cases hr; have hk : (4 : Int32).toInt = 4 := rfl; rw [hk]; exact (gi_over z45 (by omega) z47 (by omega) (by rw [((fm_I g41 rh0 rfl).trans ((fm_I g32 rh0 rfl).trans ((fm_I g23 rh0 rfl).trans ((fm_I g14 rh0 rfl).trans ((fm_I g5 rh0 rfl).trans mF27)))))]; omega)))⟩ dX12_behindSum_148
          · refine lv_aload_n hx hb dX12_behindSum_94 rfl (lv_at hl 2 rfl) ?_
            refine lv_aload_n hx hb dX12_behindSum_95 rfl (lv_at hl 2 rfl) ?_
            refine lv_bipush (v := 93) hx hb dX12_behindSum_96 (by decide) ?_
            have hw640 := hW.2.2.2
            refine t_callV (As := [.int 93]) (rest := [.ref h0]) E hW (c_X12_isSign l G cI cJ cZ cD cR cT kp L f38 hW.2.2.2 _ h0 93 rh0 (by decide)) rh0 (by decide) rfl wk_X12_isSign tw_1832 rfl ⟨Nat.le_of_ble_eq_true rfl, Nat.le_of_ble_eq_true rfl⟩ ⟨rfl, rfl⟩ hl.1 rfl (Nat.le_of_ble_eq_true rfl) dX12_behindSum_98 ⟨Nat.le_of_ble_eq_true rfl, Nat.le_of_ble_eq_true rfl⟩ (fun v637 f638 H locs q639 hW => ?_)
            obtain ⟨⟨x642, rfl, p643⟩, g641⟩ := q639
            simp only [((fm_I g41 rh0 rfl).trans ((fm_I g32 rh0 rfl).trans ((fm_I g23 rh0 rfl).trans ((fm_I g14 rh0 rfl).trans ((fm_I g5 rh0 rfl).trans mF15))))), ((fm_J g41 rh0 rfl).trans ((fm_J g32 rh0 rfl).trans ((fm_J g23 rh0 rfl).trans ((fm_J g14 rh0 rfl).trans ((fm_J g5 rh0 rfl).trans mW)))))] at p643
            have p643 : (x642.toInt = 1 ∧ pF15.toInt = 3) ∨ x642.toInt = 0 := p643
            have z644 : innI (vP f638 h0) x43.toInt (oI (f638 h0) 27).toInt := by obtain ⟨e1, -, e3⟩ := p_keep hw640 g641 rh0 rfl; rw [e1, e3]; exact z47
            have z645 : GI f638 h0 gO gA ga (3) := gi_keep z45 hw640 g641 rh0 rfl rfl (fun q => by rw [fm_I g641 rh0 rfl]; exact q)
            have hF := FM.tr hF g641 rfl
            have hw649 := hW.2.2.2
            refine t_callV (As := [.int x642]) (rest := []) E hW (c_X12_must l G cI cJ cZ cD cR cT kp L f638 hW.2.2.2 _ h0 x642 rh0 (by omega) (by simp only [((fm_I g641 rh0 rfl).trans ((fm_I g41 rh0 rfl).trans ((fm_I g32 rh0 rfl).trans ((fm_I g23 rh0 rfl).trans ((fm_I g14 rh0 rfl).trans ((fm_I g5 rh0 rfl).trans mF12)))))), ((fm_I g641 rh0 rfl).trans ((fm_I g41 rh0 rfl).trans ((fm_I g32 rh0 rfl).trans ((fm_I g23 rh0 rfl).trans ((fm_I g14 rh0 rfl).trans ((fm_I g5 rh0 rfl).trans mF13)))))), ((fm_I g641 rh0 rfl).trans ((fm_I g41 rh0 rfl).trans ((fm_I g32 rh0 rfl).trans ((fm_I g23 rh0 rfl).trans ((fm_I g14 rh0 rfl).trans ((fm_I g5 rh0 rfl).trans mF14)))))), ((fm_I g641 rh0 rfl).trans ((fm_I g41 rh0 rfl).trans ((fm_I g32 rh0 rfl).trans ((fm_I g23 rh0 rfl).trans ((fm_I g14 rh0 rfl).trans ((fm_I g5 rh0 rfl).trans mF15)))))), ((fm_J g641 rh0 rfl).trans ((fm_J g41 rh0 rfl).trans ((fm_J g32 rh0 rfl).trans ((fm_J g23 rh0 rfl).trans ((fm_J g14 rh0 rfl).trans ((fm_J g5 rh0 rfl).trans mW)))))), and_true, true_and, true_or, or_true, false_or, or_false] <;> omega)) rh0 (by decide) rfl wk_X12_must tw_1807 rfl ⟨Nat.le_of_ble_eq_true rfl, Nat.le_of_ble_eq_true rfl⟩ ⟨rfl, rfl⟩ hl.1 rfl (Nat.le_of_ble_eq_true rfl) dX12_behindSum_101 ⟨Nat.le_of_ble_eq_true rfl, Nat.le_of_ble_eq_true rfl⟩ (fun v646 f647 H locs q648 hW => ?_)
            obtain ⟨rfl, g650, h651⟩ := q648
            have m652 : oR (f647 h0) 2 = pR := ((fm_R g650 rh0 rfl).trans ((fm_R g641 rh0 rfl).trans ((fm_R g41 rh0 rfl).trans ((fm_R g32 rh0 rfl).trans ((fm_R g23 rh0 rfl).trans ((fm_R g14 rh0 rfl).trans ((fm_R g5 rh0 rfl).trans mR)))))))
            have m653 : oI (f647 h0) 12 = pF12 := ((fm_I g650 rh0 rfl).trans ((fm_I g641 rh0 rfl).trans ((fm_I g41 rh0 rfl).trans ((fm_I g32 rh0 rfl).trans ((fm_I g23 rh0 rfl).trans ((fm_I g14 rh0 rfl).trans ((fm_I g5 rh0 rfl).trans mF12)))))))
            have m654 : oI (f647 h0) 21 = pF21 := ((fm_I g650 rh0 rfl).trans ((fm_I g641 rh0 rfl).trans ((fm_I g41 rh0 rfl).trans ((fm_I g32 rh0 rfl).trans ((fm_I g23 rh0 rfl).trans ((fm_I g14 rh0 rfl).trans ((fm_I g5 rh0 rfl).trans mF21)))))))
            have m655 : oI (f647 h0) 24 = pF24 := ((fm_I g650 rh0 rfl).trans ((fm_I g641 rh0 rfl).trans ((fm_I g41 rh0 rfl).trans ((fm_I g32 rh0 rfl).trans ((fm_I g23 rh0 rfl).trans ((fm_I g14 rh0 rfl).trans ((fm_I g5 rh0 rfl).trans mF24)))))))
            have m656 : oI (f647 h0) 27 = pF27 := ((fm_I g650 rh0 rfl).trans ((fm_I g641 rh0 rfl).trans ((fm_I g41 rh0 rfl).trans ((fm_I g32 rh0 rfl).trans ((fm_I g23 rh0 rfl).trans ((fm_I g14 rh0 rfl).trans ((fm_I g5 rh0 rfl).trans mF27)))))))
            have z657 : innI (vP f647 h0) x43.toInt (oI (f647 h0) 27).toInt := by obtain ⟨e1, -, e3⟩ := p_keep hw649 g650 rh0 rfl; rw [e1, e3]; exact z644
            have hF := FM.tr hF g650 rfl
            obtain ⟨y658, m659⟩ : ∃ x : Int32, oI (f647 h0) 13 = x := ⟨_, rfl⟩
            have b660 : (0 : Int) ≤ y658.toInt ∧ y658.toInt ≤ 400 := by rw [← m659]; exact th_iv hW rh0 (by decide) (by decide) rfl
            obtain ⟨y661, m662⟩ : ∃ x : Int32, oI (f647 h0) 14 = x := ⟨_, rfl⟩
            have b663 : (0 : Int) ≤ y661.toInt ∧ y661.toInt ≤ 400 := by rw [← m662]; exact th_iv hW rh0 (by decide) (by decide) rfl
            obtain ⟨y664, m665⟩ : ∃ x : Int32, oI (f647 h0) 15 = x := ⟨_, rfl⟩
            have b666 : (0 : Int) ≤ y664.toInt ∧ y664.toInt ≤ 3 := by rw [← m665]; exact th_iv hW rh0 (by decide) (by decide) rfl
            obtain ⟨y667, m668⟩ : ∃ x : Int32, oI (f647 h0) 18 = x := ⟨_, rfl⟩
            have b669 : (0 : Int) ≤ y667.toInt ∧ y667.toInt ≤ 1 := by rw [← m668]; exact th_iv hW rh0 (by decide) (by decide) rfl
            obtain ⟨y670, m671⟩ : ∃ x : Int64, oJ (f647 h0) 16 = x := ⟨_, rfl⟩
            simp only [m653, ((fm_I g641 rh0 rfl).trans ((fm_I g41 rh0 rfl).trans ((fm_I g32 rh0 rfl).trans ((fm_I g23 rh0 rfl).trans ((fm_I g14 rh0 rfl).trans ((fm_I g5 rh0 rfl).trans mF12)))))), m659, ((fm_I g641 rh0 rfl).trans ((fm_I g41 rh0 rfl).trans ((fm_I g32 rh0 rfl).trans ((fm_I g23 rh0 rfl).trans ((fm_I g14 rh0 rfl).trans ((fm_I g5 rh0 rfl).trans mF13)))))), m662, ((fm_I g641 rh0 rfl).trans ((fm_I g41 rh0 rfl).trans ((fm_I g32 rh0 rfl).trans ((fm_I g23 rh0 rfl).trans ((fm_I g14 rh0 rfl).trans ((fm_I g5 rh0 rfl).trans mF14)))))), m665, ((fm_I g641 rh0 rfl).trans ((fm_I g41 rh0 rfl).trans ((fm_I g32 rh0 rfl).trans ((fm_I g23 rh0 rfl).trans ((fm_I g14 rh0 rfl).trans ((fm_I g5 rh0 rfl).trans mF15)))))), m668, ((fm_I g641 rh0 rfl).trans ((fm_I g41 rh0 rfl).trans ((fm_I g32 rh0 rfl).trans ((fm_I g23 rh0 rfl).trans ((fm_I g14 rh0 rfl).trans ((fm_I g5 rh0 rfl).trans mF18)))))), m671, ((fm_J g641 rh0 rfl).trans ((fm_J g41 rh0 rfl).trans ((fm_J g32 rh0 rfl).trans ((fm_J g23 rh0 rfl).trans ((fm_J g14 rh0 rfl).trans ((fm_J g5 rh0 rfl).trans mW))))))] at h651
            have z672 : GI f647 h0 gO gA ga (3) := gi_keep z645 hw649 g650 rh0 rfl rfl (fun q => by rw [((fm_I g641 rh0 rfl).trans ((fm_I g41 rh0 rfl).trans ((fm_I g32 rh0 rfl).trans ((fm_I g23 rh0 rfl).trans ((fm_I g14 rh0 rfl).trans ((fm_I g5 rh0 rfl).trans mF18))))))] at q; rw [m668]; omega)
            refine lv_aload_n hx hb dX12_behindSum_104 rfl (lv_at hl 2 rfl) ?_
            refine fg_RX12_193 E hW rh0 dX12_behindSum_105 (fun y673 m674 b675 => ?_)
            obtain rfl : y667 = y673 := (m668).symm.trans m674
            refine q_if_ne (tgt := 136) hx hb dX12_behindSum_108 (by decide) rfl (fun c676 => ?_) (fun c676 => ?_)
            · refine lv_iconst (v := 3) hx hb dX12_behindSum_136 (by decide) ?_
              exact e_I E hW rfl ⟨⟨_, rfl, (by have hk : (3 : Int32).toInt = 3 := rfl; first | decide | omega)⟩, hF, (by intro r hr; cases hr; have hkr : (3 : Int32).toInt = 3 := rfl; simp only [m653, mF12, m659, mF13, m662, mF14, m665, mF15, m674, mF18, m654, mF21, m656, mF27, m671, mW, and_true, true_and, true_or, or_true, false_or, or_false] <;> omega), (by intro r hr; cases hr; have hk : (3 : Int32).toInt = 3 := rfl; rw [hk]; exact (Or.inl (by rw [m674]; omega)))⟩ dX12_behindSum_137
            · refine lv_aload_n hx hb dX12_behindSum_111 rfl (lv_at hl 2 rfl) ?_
              refine lv_iconst (v := 5) hx hb dX12_behindSum_112 (by decide) ?_
              have hw681 := hW.2.2.2
              refine t_callV (As := [.int 5]) (rest := []) E hW (c_X12_settle l G cI cJ cZ cD cR cT kp L f647 hW.2.2.2 _ h0 5 rh0 (by decide) (by have hkq677 : (5 : Int32).toInt = 5 := rfl; simp only [m654, m656, and_true, true_and, true_or, or_true, false_or, or_false] <;> omega)) rh0 (by decide) rfl wk_X12_settle tw_1882 rfl ⟨Nat.le_of_ble_eq_true rfl, Nat.le_of_ble_eq_true rfl⟩ ⟨rfl, rfl⟩ hl.1 rfl (Nat.le_of_ble_eq_true rfl) dX12_behindSum_113 ⟨Nat.le_of_ble_eq_true rfl, Nat.le_of_ble_eq_true rfl⟩ (fun v678 f679 H locs q680 hW => ?_)
              obtain ⟨rfl, g682, h683, h684⟩ := q680
              have hF := FM.tr hF g682 rfl
              have hk685 : (5 : Int32).toInt = 5 := rfl
              obtain ⟨y686, m687⟩ : ∃ x : Int32, oI (f679 h0) 21 = x := ⟨_, rfl⟩
              have b688 : (0 : Int) ≤ y686.toInt ∧ y686.toInt ≤ 400 := by rw [← m687]; exact th_iv hW rh0 (by decide) (by decide) rfl
              obtain ⟨y689, m690⟩ : ∃ x : Int32, oI (f679 h0) 27 = x := ⟨_, rfl⟩
              have b691 : (0 : Int) ≤ y689.toInt ∧ y689.toInt ≤ 400 := by rw [← m690]; exact th_iv hW rh0 (by decide) (by decide) rfl
              simp only [m687, m654, m690, m656] at h683
              have z692 : GI f679 h0 gO gA ga (3) := gi_settle z672 hw681 rh0 g682 rfl (by omega) h684.1 h684.2.1 h684.2.2.1
              refine lv_aload_n hx hb dX12_behindSum_116 rfl (lv_at hl 2 rfl) ?_
              refine lv_dup hx hb dX12_behindSum_117 rfl ?_
              refine fg_RX12_232 E hW rh0 dX12_behindSum_118 (fun y693 m694 b695 => ?_)
              obtain rfl : y689 = y693 := (m690).symm.trans m694
              refine lv_iconst (v := 1) hx hb dX12_behindSum_121 (by decide) ?_
              refine q_isub (Y := 1) hx hb dX12_behindSum_122 rfl rfl (by omega) (fun x696 h697 => ?_)
              have z698 := close31 (f1 := f679) z672 (by rw [m674]; omega) z657 (by omega) rfl h684.2.1 h684.2.2.1 h684.2.2.2.1 h684.2.2.2.2
              have q699 := z698.1
              rw [m694] at q699
              have hw704 := hW.2.2.2
              refine fp_RX12_232 E hW rh0 (by omega) dX12_behindSum_123 (fun f700 H locs e701 n702 g703 hW => ?_)
              have z705 : GI f700 h0 gO gA ga (3) := gi_close z692 hw704 rh0 g703 e701 (by rw [m694]; omega) z698.1 (by omega) z698.2
              have hF := FM.tr hF g703 rfl
              refine lv_aload_n hx hb dX12_behindSum_126 rfl (lv_at hl 2 rfl) ?_
              refine lv_dup hx hb dX12_behindSum_127 rfl ?_
              refine fg_RX12_284 E hW rh0 dX12_behindSum_128 (fun y706 m707 => ?_)
              refine lv_iconst (v := 1) hx hb dX12_behindSum_131 (by decide) ?_
              refine u_isub hx hb dX12_behindSum_132 (fun x709 => ?_)
              have hw714 := hW.2.2.2
              refine fp_RX12_284 E hW rh0 dX12_behindSum_133 (fun f710 H locs e711 n712 g713 hW => ?_)
              have z715 : GI f710 h0 gO gA ga (3) := gi_keep z705 hw714 g713 rh0 rfl rfl (fun q => by rw [fm_I g713 rh0 rfl]; exact q)
              have hF := FM.tr hF g713 rfl
              refine lv_iconst (v := 3) hx hb dX12_behindSum_136 (by decide) ?_
              exact e_I E hW rfl ⟨⟨_, rfl, (by have hk : (3 : Int32).toInt = 3 := rfl; first | decide | omega)⟩, hF, (by intro r hr; cases hr; have hkr : (3 : Int32).toInt = 3 := rfl; simp only [((fm_I g713 rh0 rfl).trans ((fm_I g703 rh0 rfl).trans ((fm_I g682 rh0 rfl).trans m653))), mF12, ((fm_I g713 rh0 rfl).trans ((fm_I g703 rh0 rfl).trans ((fm_I g682 rh0 rfl).trans m659))), mF13, ((fm_I g713 rh0 rfl).trans ((fm_I g703 rh0 rfl).trans ((fm_I g682 rh0 rfl).trans m662))), mF14, ((fm_I g713 rh0 rfl).trans ((fm_I g703 rh0 rfl).trans ((fm_I g682 rh0 rfl).trans m665))), mF15, ((fm_I g713 rh0 rfl).trans ((fm_I g703 rh0 rfl).trans ((fm_I g682 rh0 rfl).trans m674))), mF18, ((fm_I g713 rh0 rfl).trans ((fm_I g703 rh0 rfl).trans m687)), mF21, ((fm_I g713 rh0 rfl).trans e701), mF27, ((fm_J g713 rh0 rfl).trans ((fm_J g703 rh0 rfl).trans ((fm_J g682 rh0 rfl).trans m671))), mW, and_true, true_and, true_or, or_true, false_or, or_false] <;> omega), (by intro r hr; cases hr; have hk : (3 : Int32).toInt = 3 := rfl; rw [hk]; exact z715)⟩ dX12_behindSum_137
        · have q716 : pF15.toInt = 3 := by omega
          clear p34
          refine lv_bipush (v := 23) hx hb dX12_behindSum_51 (by decide) ?_
          refine lv_goto (tgt := 57) hx hb dX12_behindSum_53 (by decide) ?_
          refine lv_istore_n (lv' := [(2, .int 23), (0, .ref h0), (1, .int u1)]) hx hb dX12_behindSum_57 rfl hl (by decide) rfl (fun ls hl => ?_)
          refine lv_iload_n hx hb dX12_behindSum_58 rfl (lv_at hl 0 rfl) ?_
          refine lv_iconst (v := (-1)) hx hb dX12_behindSum_59 (by decide) ?_
          refine q_icmp_eq (X := 23) (Y := -1) (tgt := 83) hx hb dX12_behindSum_60 (by decide) rfl rfl (fun c => absurd c (by decide)) (fun _ => ?_)
          refine lv_aload_n hx hb dX12_behindSum_63 rfl (lv_at hl 1 rfl) ?_
          refine lv_iload_n hx hb dX12_behindSum_64 rfl (lv_at hl 0 rfl) ?_
          have hw720 := hW.2.2.2
          refine t_callS (As := [.int 23]) (rest := [.ref h0]) E hW (c_X12_binds l G cI cJ cZ cD cR cT kp L f29 hW.2.2.2 _ 23) wk_X12_binds tw_1879 rfl ⟨Nat.le_of_ble_eq_true rfl, Nat.le_of_ble_eq_true rfl⟩ ⟨rfl, rfl⟩ hl.1 rfl (Nat.le_of_ble_eq_true rfl) dX12_behindSum_65 ⟨Nat.le_of_ble_eq_true rfl, Nat.le_of_ble_eq_true rfl⟩ (fun v717 f718 H locs q719 hW => ?_)
          obtain ⟨⟨x722, rfl, p723⟩, g721⟩ := q719
          have p723 : x722.toInt = bnI 23 ∧ 0 ≤ x722.toInt ∧ x722.toInt ≤ 6 := p723
          have q724 : x722.toInt = 6 := by have hb : bnI (23 : Int32).toInt = 6 := (by decide); omega
          have z725 : GI f718 h0 gO gA ga (3) := gi_keep z35 hw720 g721 rh0 rfl rfl (fun q => by rw [fm_I g721 rh0 rfl]; exact q)
          have hF := FM.tr hF g721 rfl
          have hw729 := hW.2.2.2
          refine t_callV (As := [.int x722]) (rest := []) E hW (c_X12_settle l G cI cJ cZ cD cR cT kp L f718 hW.2.2.2 _ h0 x722 rh0 (by omega) (by simp only [((fm_I g721 rh0 rfl).trans ((fm_I g32 rh0 rfl).trans ((fm_I g23 rh0 rfl).trans ((fm_I g14 rh0 rfl).trans ((fm_I g5 rh0 rfl).trans mF21))))), ((fm_I g721 rh0 rfl).trans ((fm_I g32 rh0 rfl).trans ((fm_I g23 rh0 rfl).trans ((fm_I g14 rh0 rfl).trans ((fm_I g5 rh0 rfl).trans mF27))))), and_true, true_and, true_or, or_true, false_or, or_false] <;> omega)) rh0 (by decide) rfl wk_X12_settle tw_1882 rfl ⟨Nat.le_of_ble_eq_true rfl, Nat.le_of_ble_eq_true rfl⟩ ⟨rfl, rfl⟩ hl.1 rfl (Nat.le_of_ble_eq_true rfl) dX12_behindSum_68 ⟨Nat.le_of_ble_eq_true rfl, Nat.le_of_ble_eq_true rfl⟩ (fun v726 f727 H locs q728 hW => ?_)
          obtain ⟨rfl, g730, h731, h732⟩ := q728
          have hF := FM.tr hF g730 rfl
          obtain ⟨y733, m734⟩ : ∃ x : Int32, oI (f727 h0) 21 = x := ⟨_, rfl⟩
          have b735 : (0 : Int) ≤ y733.toInt ∧ y733.toInt ≤ 400 := by rw [← m734]; exact th_iv hW rh0 (by decide) (by decide) rfl
          obtain ⟨y736, m737⟩ : ∃ x : Int32, oI (f727 h0) 27 = x := ⟨_, rfl⟩
          have b738 : (0 : Int) ≤ y736.toInt ∧ y736.toInt ≤ 400 := by rw [← m737]; exact th_iv hW rh0 (by decide) (by decide) rfl
          simp only [m734, ((fm_I g721 rh0 rfl).trans ((fm_I g32 rh0 rfl).trans ((fm_I g23 rh0 rfl).trans ((fm_I g14 rh0 rfl).trans ((fm_I g5 rh0 rfl).trans mF21))))), m737, ((fm_I g721 rh0 rfl).trans ((fm_I g32 rh0 rfl).trans ((fm_I g23 rh0 rfl).trans ((fm_I g14 rh0 rfl).trans ((fm_I g5 rh0 rfl).trans mF27)))))] at h731
          have z739 : GI f727 h0 gO gA ga (3) := gi_settle z725 hw729 rh0 g730 rfl (by omega) h732.1 h732.2.1 h732.2.2.1
          refine lv_aload_n hx hb dX12_behindSum_71 rfl (lv_at hl 1 rfl) ?_
          refine lv_iload_n hx hb dX12_behindSum_72 rfl (lv_at hl 0 rfl) ?_
          refine lv_iconst (v := 0) hx hb dX12_behindSum_73 (by decide) ?_
          have hw745 := hW.2.2.2
          refine t_callV (As := [.int 23, .int 0]) (rest := []) E hW (c_X12_push l G cI cJ cZ cD cR cT kp L f727 hW.2.2.2 _ h0 23 0 rh0 (by decide) (by decide) (by have hkq740 : (23 : Int32).toInt = 23 := rfl; have hkq741 : (0 : Int32).toInt = 0 := rfl; simp only [m737, and_true, true_and, true_or, or_true, false_or, or_false] <;> omega)) rh0 (by decide) rfl wk_X12_push tw_1828 rfl ⟨Nat.le_of_ble_eq_true rfl, Nat.le_of_ble_eq_true rfl⟩ ⟨rfl, rfl⟩ hl.1 rfl (Nat.le_of_ble_eq_true rfl) dX12_behindSum_74 ⟨Nat.le_of_ble_eq_true rfl, Nat.le_of_ble_eq_true rfl⟩ (fun v742 f743 H locs q744 hW => ?_)
          obtain ⟨rfl, g746, h747, h748⟩ := q744
          have m749 : oR (f743 h0) 2 = pR := ((fm_R g746 rh0 rfl).trans ((fm_R g730 rh0 rfl).trans ((fm_R g721 rh0 rfl).trans ((fm_R g32 rh0 rfl).trans ((fm_R g23 rh0 rfl).trans ((fm_R g14 rh0 rfl).trans ((fm_R g5 rh0 rfl).trans mR)))))))
          have m750 : oI (f743 h0) 12 = pF12 := ((fm_I g746 rh0 rfl).trans ((fm_I g730 rh0 rfl).trans ((fm_I g721 rh0 rfl).trans ((fm_I g32 rh0 rfl).trans ((fm_I g23 rh0 rfl).trans ((fm_I g14 rh0 rfl).trans ((fm_I g5 rh0 rfl).trans mF12)))))))
          have m751 : oI (f743 h0) 13 = pF13 := ((fm_I g746 rh0 rfl).trans ((fm_I g730 rh0 rfl).trans ((fm_I g721 rh0 rfl).trans ((fm_I g32 rh0 rfl).trans ((fm_I g23 rh0 rfl).trans ((fm_I g14 rh0 rfl).trans ((fm_I g5 rh0 rfl).trans mF13)))))))
          have m752 : oI (f743 h0) 14 = pF14 := ((fm_I g746 rh0 rfl).trans ((fm_I g730 rh0 rfl).trans ((fm_I g721 rh0 rfl).trans ((fm_I g32 rh0 rfl).trans ((fm_I g23 rh0 rfl).trans ((fm_I g14 rh0 rfl).trans ((fm_I g5 rh0 rfl).trans mF14)))))))
          have m753 : oI (f743 h0) 15 = pF15 := ((fm_I g746 rh0 rfl).trans ((fm_I g730 rh0 rfl).trans ((fm_I g721 rh0 rfl).trans ((fm_I g32 rh0 rfl).trans ((fm_I g23 rh0 rfl).trans ((fm_I g14 rh0 rfl).trans ((fm_I g5 rh0 rfl).trans mF15)))))))
          have m754 : oI (f743 h0) 18 = pF18 := ((fm_I g746 rh0 rfl).trans ((fm_I g730 rh0 rfl).trans ((fm_I g721 rh0 rfl).trans ((fm_I g32 rh0 rfl).trans ((fm_I g23 rh0 rfl).trans ((fm_I g14 rh0 rfl).trans ((fm_I g5 rh0 rfl).trans mF18)))))))
          have m755 : oI (f743 h0) 24 = pF24 := ((fm_I g746 rh0 rfl).trans ((fm_I g730 rh0 rfl).trans ((fm_I g721 rh0 rfl).trans ((fm_I g32 rh0 rfl).trans ((fm_I g23 rh0 rfl).trans ((fm_I g14 rh0 rfl).trans ((fm_I g5 rh0 rfl).trans mF24)))))))
          have m756 : oJ (f743 h0) 16 = pW := ((fm_J g746 rh0 rfl).trans ((fm_J g730 rh0 rfl).trans ((fm_J g721 rh0 rfl).trans ((fm_J g32 rh0 rfl).trans ((fm_J g23 rh0 rfl).trans ((fm_J g14 rh0 rfl).trans ((fm_J g5 rh0 rfl).trans mW)))))))
          have hF := FM.tr hF g746 rfl
          have hk757 : (23 : Int32).toInt = 23 := rfl
          have hk758 : (0 : Int32).toInt = 0 := rfl
          obtain ⟨y759, m760⟩ : ∃ x : Int32, oI (f743 h0) 27 = x := ⟨_, rfl⟩
          have b761 : (0 : Int) ≤ y759.toInt ∧ y759.toInt ≤ 400 := by rw [← m760]; exact th_iv hW rh0 (by decide) (by decide) rfl
          simp only [m760, m737] at h747
          have z762 : GI f743 h0 gO gA ga (1) := gi_push z739 hw745 g746 rh0 rfl rfl (by rw [m737]; omega) h748 (by have hk : (23 : Int32).toInt = 23 := rfl; omega)
          refine lv_aload_n hx hb dX12_behindSum_77 rfl (lv_at hl 1 rfl) ?_
          have hw766 := hW.2.2.2
          refine t_callV (As := []) (rest := []) E hW (c_X12_next l G cI cJ cZ cD cR cT kp L f743 hW.2.2.2 _ h0 rh0 (by simp only [m750, m752, and_true, true_and, true_or, or_true, false_or, or_false] <;> omega)) rh0 (by decide) rfl wk_X12_next tw_1773 rfl ⟨Nat.le_of_ble_eq_true rfl, Nat.le_of_ble_eq_true rfl⟩ ⟨rfl, rfl⟩ hl.1 rfl (Nat.le_of_ble_eq_true rfl) dX12_behindSum_78 ⟨Nat.le_of_ble_eq_true rfl, Nat.le_of_ble_eq_true rfl⟩ (fun v763 f764 H locs q765 hW => ?_)
          obtain ⟨rfl, g767, h768⟩ := q765
          have z769 : GI f764 h0 gO gA ga (1) := gi_keep z762 hw766 g767 rh0 rfl rfl (fun q => by rw [fm_I g767 rh0 rfl]; exact q)
          have hF := FM.tr hF g767 rfl
          obtain ⟨y770, m771⟩ : ∃ x : Int32, oI (f764 h0) 13 = x := ⟨_, rfl⟩
          have b772 : (0 : Int) ≤ y770.toInt ∧ y770.toInt ≤ 400 := by rw [← m771]; exact th_iv hW rh0 (by decide) (by decide) rfl
          obtain ⟨y773, m774⟩ : ∃ x : Int32, oI (f764 h0) 14 = x := ⟨_, rfl⟩
          have b775 : (0 : Int) ≤ y773.toInt ∧ y773.toInt ≤ 400 := by rw [← m774]; exact th_iv hW rh0 (by decide) (by decide) rfl
          obtain ⟨y776, m777⟩ : ∃ x : Int32, oI (f764 h0) 15 = x := ⟨_, rfl⟩
          have b778 : (0 : Int) ≤ y776.toInt ∧ y776.toInt ≤ 3 := by rw [← m777]; exact th_iv hW rh0 (by decide) (by decide) rfl
          obtain ⟨y779, m780⟩ : ∃ x : Int64, oJ (f764 h0) 16 = x := ⟨_, rfl⟩
          simp only [((fm_I g767 rh0 rfl).trans m750), m750, m771, m751, m774, m752, m777, m753, m780, m756] at h768
          refine lv_iconst (v := 1) hx hb dX12_behindSum_81 (by decide) ?_
          exact e_I E hW rfl ⟨⟨_, rfl, (by have hk : (1 : Int32).toInt = 1 := rfl; first | decide | omega)⟩, hF, (by intro r hr; cases hr; have hkr : (1 : Int32).toInt = 1 := rfl; simp only [((fm_I g767 rh0 rfl).trans m750), mF12, m771, mF13, m774, mF14, m777, mF15, ((fm_I g767 rh0 rfl).trans m754), mF18, ((fm_I g767 rh0 rfl).trans ((fm_I g746 rh0 rfl).trans m734)), mF21, ((fm_I g767 rh0 rfl).trans m760), mF27, m780, mW, and_true, true_and, true_or, or_true, false_or, or_false] <;> omega), (by intro r hr; cases hr; have hk : (1 : Int32).toInt = 1 := rfl; rw [hk]; exact z769)⟩ dX12_behindSum_82
      · have q781 : pF15.toInt = 3 := by omega
        clear p25
        refine lv_bipush (v := 22) hx hb dX12_behindSum_37 (by decide) ?_
        refine lv_goto (tgt := 57) hx hb dX12_behindSum_39 (by decide) ?_
        refine lv_istore_n (lv' := [(2, .int 22), (0, .ref h0), (1, .int u1)]) hx hb dX12_behindSum_57 rfl hl (by decide) rfl (fun ls hl => ?_)
        refine lv_iload_n hx hb dX12_behindSum_58 rfl (lv_at hl 0 rfl) ?_
        refine lv_iconst (v := (-1)) hx hb dX12_behindSum_59 (by decide) ?_
        refine q_icmp_eq (X := 22) (Y := -1) (tgt := 83) hx hb dX12_behindSum_60 (by decide) rfl rfl (fun c => absurd c (by decide)) (fun _ => ?_)
        refine lv_aload_n hx hb dX12_behindSum_63 rfl (lv_at hl 1 rfl) ?_
        refine lv_iload_n hx hb dX12_behindSum_64 rfl (lv_at hl 0 rfl) ?_
        have hw785 := hW.2.2.2
        refine t_callS (As := [.int 22]) (rest := [.ref h0]) E hW (c_X12_binds l G cI cJ cZ cD cR cT kp L f20 hW.2.2.2 _ 22) wk_X12_binds tw_1879 rfl ⟨Nat.le_of_ble_eq_true rfl, Nat.le_of_ble_eq_true rfl⟩ ⟨rfl, rfl⟩ hl.1 rfl (Nat.le_of_ble_eq_true rfl) dX12_behindSum_65 ⟨Nat.le_of_ble_eq_true rfl, Nat.le_of_ble_eq_true rfl⟩ (fun v782 f783 H locs q784 hW => ?_)
        obtain ⟨⟨x787, rfl, p788⟩, g786⟩ := q784
        have p788 : x787.toInt = bnI 22 ∧ 0 ≤ x787.toInt ∧ x787.toInt ≤ 6 := p788
        have q789 : x787.toInt = 6 := by have hb : bnI (22 : Int32).toInt = 6 := (by decide); omega
        have z790 : GI f783 h0 gO gA ga (3) := gi_keep z26 hw785 g786 rh0 rfl rfl (fun q => by rw [fm_I g786 rh0 rfl]; exact q)
        have hF := FM.tr hF g786 rfl
        have hw794 := hW.2.2.2
        refine t_callV (As := [.int x787]) (rest := []) E hW (c_X12_settle l G cI cJ cZ cD cR cT kp L f783 hW.2.2.2 _ h0 x787 rh0 (by omega) (by simp only [((fm_I g786 rh0 rfl).trans ((fm_I g23 rh0 rfl).trans ((fm_I g14 rh0 rfl).trans ((fm_I g5 rh0 rfl).trans mF21)))), ((fm_I g786 rh0 rfl).trans ((fm_I g23 rh0 rfl).trans ((fm_I g14 rh0 rfl).trans ((fm_I g5 rh0 rfl).trans mF27)))), and_true, true_and, true_or, or_true, false_or, or_false] <;> omega)) rh0 (by decide) rfl wk_X12_settle tw_1882 rfl ⟨Nat.le_of_ble_eq_true rfl, Nat.le_of_ble_eq_true rfl⟩ ⟨rfl, rfl⟩ hl.1 rfl (Nat.le_of_ble_eq_true rfl) dX12_behindSum_68 ⟨Nat.le_of_ble_eq_true rfl, Nat.le_of_ble_eq_true rfl⟩ (fun v791 f792 H locs q793 hW => ?_)
        obtain ⟨rfl, g795, h796, h797⟩ := q793
        have hF := FM.tr hF g795 rfl
        obtain ⟨y798, m799⟩ : ∃ x : Int32, oI (f792 h0) 21 = x := ⟨_, rfl⟩
        have b800 : (0 : Int) ≤ y798.toInt ∧ y798.toInt ≤ 400 := by rw [← m799]; exact th_iv hW rh0 (by decide) (by decide) rfl
        obtain ⟨y801, m802⟩ : ∃ x : Int32, oI (f792 h0) 27 = x := ⟨_, rfl⟩
        have b803 : (0 : Int) ≤ y801.toInt ∧ y801.toInt ≤ 400 := by rw [← m802]; exact th_iv hW rh0 (by decide) (by decide) rfl
        simp only [m799, ((fm_I g786 rh0 rfl).trans ((fm_I g23 rh0 rfl).trans ((fm_I g14 rh0 rfl).trans ((fm_I g5 rh0 rfl).trans mF21)))), m802, ((fm_I g786 rh0 rfl).trans ((fm_I g23 rh0 rfl).trans ((fm_I g14 rh0 rfl).trans ((fm_I g5 rh0 rfl).trans mF27))))] at h796
        have z804 : GI f792 h0 gO gA ga (3) := gi_settle z790 hw794 rh0 g795 rfl (by omega) h797.1 h797.2.1 h797.2.2.1
        refine lv_aload_n hx hb dX12_behindSum_71 rfl (lv_at hl 1 rfl) ?_
        refine lv_iload_n hx hb dX12_behindSum_72 rfl (lv_at hl 0 rfl) ?_
        refine lv_iconst (v := 0) hx hb dX12_behindSum_73 (by decide) ?_
        have hw810 := hW.2.2.2
        refine t_callV (As := [.int 22, .int 0]) (rest := []) E hW (c_X12_push l G cI cJ cZ cD cR cT kp L f792 hW.2.2.2 _ h0 22 0 rh0 (by decide) (by decide) (by have hkq805 : (22 : Int32).toInt = 22 := rfl; have hkq806 : (0 : Int32).toInt = 0 := rfl; simp only [m802, and_true, true_and, true_or, or_true, false_or, or_false] <;> omega)) rh0 (by decide) rfl wk_X12_push tw_1828 rfl ⟨Nat.le_of_ble_eq_true rfl, Nat.le_of_ble_eq_true rfl⟩ ⟨rfl, rfl⟩ hl.1 rfl (Nat.le_of_ble_eq_true rfl) dX12_behindSum_74 ⟨Nat.le_of_ble_eq_true rfl, Nat.le_of_ble_eq_true rfl⟩ (fun v807 f808 H locs q809 hW => ?_)
        obtain ⟨rfl, g811, h812, h813⟩ := q809
        have hF := FM.tr hF g811 rfl
        have hk814 : (22 : Int32).toInt = 22 := rfl
        have hk815 : (0 : Int32).toInt = 0 := rfl
        obtain ⟨y816, m817⟩ : ∃ x : Int32, oI (f808 h0) 27 = x := ⟨_, rfl⟩
        have b818 : (0 : Int) ≤ y816.toInt ∧ y816.toInt ≤ 400 := by rw [← m817]; exact th_iv hW rh0 (by decide) (by decide) rfl
        simp only [m817, m802] at h812
        have z819 : GI f808 h0 gO gA ga (1) := gi_push z804 hw810 g811 rh0 rfl rfl (by rw [m802]; omega) h813 (by have hk : (22 : Int32).toInt = 22 := rfl; omega)
        refine lv_aload_n hx hb dX12_behindSum_77 rfl (lv_at hl 1 rfl) ?_
        have hw823 := hW.2.2.2
        refine t_callV (As := []) (rest := []) E hW (c_X12_next l G cI cJ cZ cD cR cT kp L f808 hW.2.2.2 _ h0 rh0 (by simp only [((fm_I g811 rh0 rfl).trans ((fm_I g795 rh0 rfl).trans ((fm_I g786 rh0 rfl).trans ((fm_I g23 rh0 rfl).trans ((fm_I g14 rh0 rfl).trans ((fm_I g5 rh0 rfl).trans mF12)))))), ((fm_I g811 rh0 rfl).trans ((fm_I g795 rh0 rfl).trans ((fm_I g786 rh0 rfl).trans ((fm_I g23 rh0 rfl).trans ((fm_I g14 rh0 rfl).trans ((fm_I g5 rh0 rfl).trans mF14)))))), and_true, true_and, true_or, or_true, false_or, or_false] <;> omega)) rh0 (by decide) rfl wk_X12_next tw_1773 rfl ⟨Nat.le_of_ble_eq_true rfl, Nat.le_of_ble_eq_true rfl⟩ ⟨rfl, rfl⟩ hl.1 rfl (Nat.le_of_ble_eq_true rfl) dX12_behindSum_78 ⟨Nat.le_of_ble_eq_true rfl, Nat.le_of_ble_eq_true rfl⟩ (fun v820 f821 H locs q822 hW => ?_)
        obtain ⟨rfl, g824, h825⟩ := q822
        have m826 : oR (f821 h0) 2 = pR := ((fm_R g824 rh0 rfl).trans ((fm_R g811 rh0 rfl).trans ((fm_R g795 rh0 rfl).trans ((fm_R g786 rh0 rfl).trans ((fm_R g23 rh0 rfl).trans ((fm_R g14 rh0 rfl).trans ((fm_R g5 rh0 rfl).trans mR)))))))
        have m827 : oI (f821 h0) 12 = pF12 := ((fm_I g824 rh0 rfl).trans ((fm_I g811 rh0 rfl).trans ((fm_I g795 rh0 rfl).trans ((fm_I g786 rh0 rfl).trans ((fm_I g23 rh0 rfl).trans ((fm_I g14 rh0 rfl).trans ((fm_I g5 rh0 rfl).trans mF12)))))))
        have m828 : oI (f821 h0) 18 = pF18 := ((fm_I g824 rh0 rfl).trans ((fm_I g811 rh0 rfl).trans ((fm_I g795 rh0 rfl).trans ((fm_I g786 rh0 rfl).trans ((fm_I g23 rh0 rfl).trans ((fm_I g14 rh0 rfl).trans ((fm_I g5 rh0 rfl).trans mF18)))))))
        have m829 : oI (f821 h0) 24 = pF24 := ((fm_I g824 rh0 rfl).trans ((fm_I g811 rh0 rfl).trans ((fm_I g795 rh0 rfl).trans ((fm_I g786 rh0 rfl).trans ((fm_I g23 rh0 rfl).trans ((fm_I g14 rh0 rfl).trans ((fm_I g5 rh0 rfl).trans mF24)))))))
        have z830 : GI f821 h0 gO gA ga (1) := gi_keep z819 hw823 g824 rh0 rfl rfl (fun q => by rw [fm_I g824 rh0 rfl]; exact q)
        have hF := FM.tr hF g824 rfl
        obtain ⟨y831, m832⟩ : ∃ x : Int32, oI (f821 h0) 13 = x := ⟨_, rfl⟩
        have b833 : (0 : Int) ≤ y831.toInt ∧ y831.toInt ≤ 400 := by rw [← m832]; exact th_iv hW rh0 (by decide) (by decide) rfl
        obtain ⟨y834, m835⟩ : ∃ x : Int32, oI (f821 h0) 14 = x := ⟨_, rfl⟩
        have b836 : (0 : Int) ≤ y834.toInt ∧ y834.toInt ≤ 400 := by rw [← m835]; exact th_iv hW rh0 (by decide) (by decide) rfl
        obtain ⟨y837, m838⟩ : ∃ x : Int32, oI (f821 h0) 15 = x := ⟨_, rfl⟩
        have b839 : (0 : Int) ≤ y837.toInt ∧ y837.toInt ≤ 3 := by rw [← m838]; exact th_iv hW rh0 (by decide) (by decide) rfl
        obtain ⟨y840, m841⟩ : ∃ x : Int64, oJ (f821 h0) 16 = x := ⟨_, rfl⟩
        simp only [m827, ((fm_I g811 rh0 rfl).trans ((fm_I g795 rh0 rfl).trans ((fm_I g786 rh0 rfl).trans ((fm_I g23 rh0 rfl).trans ((fm_I g14 rh0 rfl).trans ((fm_I g5 rh0 rfl).trans mF12)))))), m832, ((fm_I g811 rh0 rfl).trans ((fm_I g795 rh0 rfl).trans ((fm_I g786 rh0 rfl).trans ((fm_I g23 rh0 rfl).trans ((fm_I g14 rh0 rfl).trans ((fm_I g5 rh0 rfl).trans mF13)))))), m835, ((fm_I g811 rh0 rfl).trans ((fm_I g795 rh0 rfl).trans ((fm_I g786 rh0 rfl).trans ((fm_I g23 rh0 rfl).trans ((fm_I g14 rh0 rfl).trans ((fm_I g5 rh0 rfl).trans mF14)))))), m838, ((fm_I g811 rh0 rfl).trans ((fm_I g795 rh0 rfl).trans ((fm_I g786 rh0 rfl).trans ((fm_I g23 rh0 rfl).trans ((fm_I g14 rh0 rfl).trans ((fm_I g5 rh0 rfl).trans mF15)))))), m841, ((fm_J g811 rh0 rfl).trans ((fm_J g795 rh0 rfl).trans ((fm_J g786 rh0 rfl).trans ((fm_J g23 rh0 rfl).trans ((fm_J g14 rh0 rfl).trans ((fm_J g5 rh0 rfl).trans mW))))))] at h825
        refine lv_iconst (v := 1) hx hb dX12_behindSum_81 (by decide) ?_
        exact e_I E hW rfl ⟨⟨_, rfl, (by have hk : (1 : Int32).toInt = 1 := rfl; first | decide | omega)⟩, hF, (by intro r hr; cases hr; have hkr : (1 : Int32).toInt = 1 := rfl; simp only [m827, mF12, m832, mF13, m835, mF14, m838, mF15, m828, mF18, ((fm_I g824 rh0 rfl).trans ((fm_I g811 rh0 rfl).trans m799)), mF21, ((fm_I g824 rh0 rfl).trans m817), mF27, m841, mW, and_true, true_and, true_or, or_true, false_or, or_false] <;> omega), (by intro r hr; cases hr; have hk : (1 : Int32).toInt = 1 := rfl; rw [hk]; exact z830)⟩ dX12_behindSum_82
    · have q842 : pF15.toInt = 3 := by omega
      clear p16
      refine lv_bipush (v := 21) hx hb dX12_behindSum_23 (by decide) ?_
      refine lv_goto (tgt := 57) hx hb dX12_behindSum_25 (by decide) ?_
      refine lv_istore_n (lv' := [(2, .int 21), (0, .ref h0), (1, .int u1)]) hx hb dX12_behindSum_57 rfl hl (by decide) rfl (fun ls hl => ?_)
      refine lv_iload_n hx hb dX12_behindSum_58 rfl (lv_at hl 0 rfl) ?_
      refine lv_iconst (v := (-1)) hx hb dX12_behindSum_59 (by decide) ?_
      refine q_icmp_eq (X := 21) (Y := -1) (tgt := 83) hx hb dX12_behindSum_60 (by decide) rfl rfl (fun c => absurd c (by decide)) (fun _ => ?_)
      refine lv_aload_n hx hb dX12_behindSum_63 rfl (lv_at hl 1 rfl) ?_
      refine lv_iload_n hx hb dX12_behindSum_64 rfl (lv_at hl 0 rfl) ?_
      have hw846 := hW.2.2.2
      refine t_callS (As := [.int 21]) (rest := [.ref h0]) E hW (c_X12_binds l G cI cJ cZ cD cR cT kp L f11 hW.2.2.2 _ 21) wk_X12_binds tw_1879 rfl ⟨Nat.le_of_ble_eq_true rfl, Nat.le_of_ble_eq_true rfl⟩ ⟨rfl, rfl⟩ hl.1 rfl (Nat.le_of_ble_eq_true rfl) dX12_behindSum_65 ⟨Nat.le_of_ble_eq_true rfl, Nat.le_of_ble_eq_true rfl⟩ (fun v843 f844 H locs q845 hW => ?_)
      obtain ⟨⟨x848, rfl, p849⟩, g847⟩ := q845
      have p849 : x848.toInt = bnI 21 ∧ 0 ≤ x848.toInt ∧ x848.toInt ≤ 6 := p849
      have q850 : x848.toInt = 5 := by have hb : bnI (21 : Int32).toInt = 5 := (by decide); omega
      have z851 : GI f844 h0 gO gA ga (3) := gi_keep z17 hw846 g847 rh0 rfl rfl (fun q => by rw [fm_I g847 rh0 rfl]; exact q)
      have hF := FM.tr hF g847 rfl
      have hw855 := hW.2.2.2
      refine t_callV (As := [.int x848]) (rest := []) E hW (c_X12_settle l G cI cJ cZ cD cR cT kp L f844 hW.2.2.2 _ h0 x848 rh0 (by omega) (by simp only [((fm_I g847 rh0 rfl).trans ((fm_I g14 rh0 rfl).trans ((fm_I g5 rh0 rfl).trans mF21))), ((fm_I g847 rh0 rfl).trans ((fm_I g14 rh0 rfl).trans ((fm_I g5 rh0 rfl).trans mF27))), and_true, true_and, true_or, or_true, false_or, or_false] <;> omega)) rh0 (by decide) rfl wk_X12_settle tw_1882 rfl ⟨Nat.le_of_ble_eq_true rfl, Nat.le_of_ble_eq_true rfl⟩ ⟨rfl, rfl⟩ hl.1 rfl (Nat.le_of_ble_eq_true rfl) dX12_behindSum_68 ⟨Nat.le_of_ble_eq_true rfl, Nat.le_of_ble_eq_true rfl⟩ (fun v852 f853 H locs q854 hW => ?_)
      obtain ⟨rfl, g856, h857, h858⟩ := q854
      have hF := FM.tr hF g856 rfl
      obtain ⟨y859, m860⟩ : ∃ x : Int32, oI (f853 h0) 21 = x := ⟨_, rfl⟩
      have b861 : (0 : Int) ≤ y859.toInt ∧ y859.toInt ≤ 400 := by rw [← m860]; exact th_iv hW rh0 (by decide) (by decide) rfl
      obtain ⟨y862, m863⟩ : ∃ x : Int32, oI (f853 h0) 27 = x := ⟨_, rfl⟩
      have b864 : (0 : Int) ≤ y862.toInt ∧ y862.toInt ≤ 400 := by rw [← m863]; exact th_iv hW rh0 (by decide) (by decide) rfl
      simp only [m860, ((fm_I g847 rh0 rfl).trans ((fm_I g14 rh0 rfl).trans ((fm_I g5 rh0 rfl).trans mF21))), m863, ((fm_I g847 rh0 rfl).trans ((fm_I g14 rh0 rfl).trans ((fm_I g5 rh0 rfl).trans mF27)))] at h857
      have z865 : GI f853 h0 gO gA ga (3) := gi_settle z851 hw855 rh0 g856 rfl (by omega) h858.1 h858.2.1 h858.2.2.1
      refine lv_aload_n hx hb dX12_behindSum_71 rfl (lv_at hl 1 rfl) ?_
      refine lv_iload_n hx hb dX12_behindSum_72 rfl (lv_at hl 0 rfl) ?_
      refine lv_iconst (v := 0) hx hb dX12_behindSum_73 (by decide) ?_
      have hw871 := hW.2.2.2
      refine t_callV (As := [.int 21, .int 0]) (rest := []) E hW (c_X12_push l G cI cJ cZ cD cR cT kp L f853 hW.2.2.2 _ h0 21 0 rh0 (by decide) (by decide) (by have hkq866 : (21 : Int32).toInt = 21 := rfl; have hkq867 : (0 : Int32).toInt = 0 := rfl; simp only [m863, and_true, true_and, true_or, or_true, false_or, or_false] <;> omega)) rh0 (by decide) rfl wk_X12_push tw_1828 rfl ⟨Nat.le_of_ble_eq_true rfl, Nat.le_of_ble_eq_true rfl⟩ ⟨rfl, rfl⟩ hl.1 rfl (Nat.le_of_ble_eq_true rfl) dX12_behindSum_74 ⟨Nat.le_of_ble_eq_true rfl, Nat.le_of_ble_eq_true rfl⟩ (fun v868 f869 H locs q870 hW => ?_)
      obtain ⟨rfl, g872, h873, h874⟩ := q870
      have hF := FM.tr hF g872 rfl
      have hk875 : (21 : Int32).toInt = 21 := rfl
      have hk876 : (0 : Int32).toInt = 0 := rfl
      obtain ⟨y877, m878⟩ : ∃ x : Int32, oI (f869 h0) 27 = x := ⟨_, rfl⟩
      have b879 : (0 : Int) ≤ y877.toInt ∧ y877.toInt ≤ 400 := by rw [← m878]; exact th_iv hW rh0 (by decide) (by decide) rfl
      simp only [m878, m863] at h873
      have z880 : GI f869 h0 gO gA ga (1) := gi_push z865 hw871 g872 rh0 rfl rfl (by rw [m863]; omega) h874 (by have hk : (21 : Int32).toInt = 21 := rfl; omega)
      refine lv_aload_n hx hb dX12_behindSum_77 rfl (lv_at hl 1 rfl) ?_
      have hw884 := hW.2.2.2
      refine t_callV (As := []) (rest := []) E hW (c_X12_next l G cI cJ cZ cD cR cT kp L f869 hW.2.2.2 _ h0 rh0 (by simp only [((fm_I g872 rh0 rfl).trans ((fm_I g856 rh0 rfl).trans ((fm_I g847 rh0 rfl).trans ((fm_I g14 rh0 rfl).trans ((fm_I g5 rh0 rfl).trans mF12))))), ((fm_I g872 rh0 rfl).trans ((fm_I g856 rh0 rfl).trans ((fm_I g847 rh0 rfl).trans ((fm_I g14 rh0 rfl).trans ((fm_I g5 rh0 rfl).trans mF14))))), and_true, true_and, true_or, or_true, false_or, or_false] <;> omega)) rh0 (by decide) rfl wk_X12_next tw_1773 rfl ⟨Nat.le_of_ble_eq_true rfl, Nat.le_of_ble_eq_true rfl⟩ ⟨rfl, rfl⟩ hl.1 rfl (Nat.le_of_ble_eq_true rfl) dX12_behindSum_78 ⟨Nat.le_of_ble_eq_true rfl, Nat.le_of_ble_eq_true rfl⟩ (fun v881 f882 H locs q883 hW => ?_)
      obtain ⟨rfl, g885, h886⟩ := q883
      have z887 : GI f882 h0 gO gA ga (1) := gi_keep z880 hw884 g885 rh0 rfl rfl (fun q => by rw [fm_I g885 rh0 rfl]; exact q)
      have hF := FM.tr hF g885 rfl
      obtain ⟨y888, m889⟩ : ∃ x : Int32, oI (f882 h0) 13 = x := ⟨_, rfl⟩
      have b890 : (0 : Int) ≤ y888.toInt ∧ y888.toInt ≤ 400 := by rw [← m889]; exact th_iv hW rh0 (by decide) (by decide) rfl
      obtain ⟨y891, m892⟩ : ∃ x : Int32, oI (f882 h0) 14 = x := ⟨_, rfl⟩
      have b893 : (0 : Int) ≤ y891.toInt ∧ y891.toInt ≤ 400 := by rw [← m892]; exact th_iv hW rh0 (by decide) (by decide) rfl
      obtain ⟨y894, m895⟩ : ∃ x : Int32, oI (f882 h0) 15 = x := ⟨_, rfl⟩
      have b896 : (0 : Int) ≤ y894.toInt ∧ y894.toInt ≤ 3 := by rw [← m895]; exact th_iv hW rh0 (by decide) (by decide) rfl
      obtain ⟨y897, m898⟩ : ∃ x : Int64, oJ (f882 h0) 16 = x := ⟨_, rfl⟩
      simp only [((fm_I g885 rh0 rfl).trans ((fm_I g872 rh0 rfl).trans ((fm_I g856 rh0 rfl).trans ((fm_I g847 rh0 rfl).trans ((fm_I g14 rh0 rfl).trans ((fm_I g5 rh0 rfl).trans mF12)))))), ((fm_I g872 rh0 rfl).trans ((fm_I g856 rh0 rfl).trans ((fm_I g847 rh0 rfl).trans ((fm_I g14 rh0 rfl).trans ((fm_I g5 rh0 rfl).trans mF12))))), m889, ((fm_I g872 rh0 rfl).trans ((fm_I g856 rh0 rfl).trans ((fm_I g847 rh0 rfl).trans ((fm_I g14 rh0 rfl).trans ((fm_I g5 rh0 rfl).trans mF13))))), m892, ((fm_I g872 rh0 rfl).trans ((fm_I g856 rh0 rfl).trans ((fm_I g847 rh0 rfl).trans ((fm_I g14 rh0 rfl).trans ((fm_I g5 rh0 rfl).trans mF14))))), m895, ((fm_I g872 rh0 rfl).trans ((fm_I g856 rh0 rfl).trans ((fm_I g847 rh0 rfl).trans ((fm_I g14 rh0 rfl).trans ((fm_I g5 rh0 rfl).trans mF15))))), m898, ((fm_J g872 rh0 rfl).trans ((fm_J g856 rh0 rfl).trans ((fm_J g847 rh0 rfl).trans ((fm_J g14 rh0 rfl).trans ((fm_J g5 rh0 rfl).trans mW)))))] at h886
      refine lv_iconst (v := 1) hx hb dX12_behindSum_81 (by decide) ?_
      exact e_I E hW rfl ⟨⟨_, rfl, (by have hk : (1 : Int32).toInt = 1 := rfl; first | decide | omega)⟩, hF, (by intro r hr; cases hr; have hkr : (1 : Int32).toInt = 1 := rfl; simp only [((fm_I g885 rh0 rfl).trans ((fm_I g872 rh0 rfl).trans ((fm_I g856 rh0 rfl).trans ((fm_I g847 rh0 rfl).trans ((fm_I g14 rh0 rfl).trans ((fm_I g5 rh0 rfl).trans mF12)))))), mF12, m889, mF13, m892, mF14, m895, mF15, ((fm_I g885 rh0 rfl).trans ((fm_I g872 rh0 rfl).trans ((fm_I g856 rh0 rfl).trans ((fm_I g847 rh0 rfl).trans ((fm_I g14 rh0 rfl).trans ((fm_I g5 rh0 rfl).trans mF18)))))), mF18, ((fm_I g885 rh0 rfl).trans ((fm_I g872 rh0 rfl).trans m860)), mF21, ((fm_I g885 rh0 rfl).trans m878), mF27, m898, mW, and_true, true_and, true_or, or_true, false_or, or_false] <;> omega), (by intro r hr; cases hr; have hk : (1 : Int32).toInt = 1 := rfl; rw [hk]; exact z887)⟩ dX12_behindSum_82
  · have q899 : pF15.toInt = 3 := by omega
    clear p7
    refine lv_bipush (v := 20) hx hb dX12_behindSum_9 (by decide) ?_
    refine lv_goto (tgt := 57) hx hb dX12_behindSum_11 (by decide) ?_
    refine lv_istore_n (lv' := [(2, .int 20), (0, .ref h0), (1, .int u1)]) hx hb dX12_behindSum_57 rfl hl (by decide) rfl (fun ls hl => ?_)
    refine lv_iload_n hx hb dX12_behindSum_58 rfl (lv_at hl 0 rfl) ?_
    refine lv_iconst (v := (-1)) hx hb dX12_behindSum_59 (by decide) ?_
    refine q_icmp_eq (X := 20) (Y := -1) (tgt := 83) hx hb dX12_behindSum_60 (by decide) rfl rfl (fun c => absurd c (by decide)) (fun _ => ?_)
    refine lv_aload_n hx hb dX12_behindSum_63 rfl (lv_at hl 1 rfl) ?_
    refine lv_iload_n hx hb dX12_behindSum_64 rfl (lv_at hl 0 rfl) ?_
    have hw903 := hW.2.2.2
    refine t_callS (As := [.int 20]) (rest := [.ref h0]) E hW (c_X12_binds l G cI cJ cZ cD cR cT kp L f2 hW.2.2.2 _ 20) wk_X12_binds tw_1879 rfl ⟨Nat.le_of_ble_eq_true rfl, Nat.le_of_ble_eq_true rfl⟩ ⟨rfl, rfl⟩ hl.1 rfl (Nat.le_of_ble_eq_true rfl) dX12_behindSum_65 ⟨Nat.le_of_ble_eq_true rfl, Nat.le_of_ble_eq_true rfl⟩ (fun v900 f901 H locs q902 hW => ?_)
    obtain ⟨⟨x905, rfl, p906⟩, g904⟩ := q902
    have p906 : x905.toInt = bnI 20 ∧ 0 ≤ x905.toInt ∧ x905.toInt ≤ 6 := p906
    have q907 : x905.toInt = 5 := by have hb : bnI (20 : Int32).toInt = 5 := (by decide); omega
    have z908 : GI f901 h0 gO gA ga (3) := gi_keep z8 hw903 g904 rh0 rfl rfl (fun q => by rw [fm_I g904 rh0 rfl]; exact q)
    have hF := FM.tr hF g904 rfl
    have hw912 := hW.2.2.2
    refine t_callV (As := [.int x905]) (rest := []) E hW (c_X12_settle l G cI cJ cZ cD cR cT kp L f901 hW.2.2.2 _ h0 x905 rh0 (by omega) (by simp only [((fm_I g904 rh0 rfl).trans ((fm_I g5 rh0 rfl).trans mF21)), ((fm_I g904 rh0 rfl).trans ((fm_I g5 rh0 rfl).trans mF27)), and_true, true_and, true_or, or_true, false_or, or_false] <;> omega)) rh0 (by decide) rfl wk_X12_settle tw_1882 rfl ⟨Nat.le_of_ble_eq_true rfl, Nat.le_of_ble_eq_true rfl⟩ ⟨rfl, rfl⟩ hl.1 rfl (Nat.le_of_ble_eq_true rfl) dX12_behindSum_68 ⟨Nat.le_of_ble_eq_true rfl, Nat.le_of_ble_eq_true rfl⟩ (fun v909 f910 H locs q911 hW => ?_)
    obtain ⟨rfl, g913, h914, h915⟩ := q911
    have hF := FM.tr hF g913 rfl
    obtain ⟨y916, m917⟩ : ∃ x : Int32, oI (f910 h0) 21 = x := ⟨_, rfl⟩
    have b918 : (0 : Int) ≤ y916.toInt ∧ y916.toInt ≤ 400 := by rw [← m917]; exact th_iv hW rh0 (by decide) (by decide) rfl
    obtain ⟨y919, m920⟩ : ∃ x : Int32, oI (f910 h0) 27 = x := ⟨_, rfl⟩
    have b921 : (0 : Int) ≤ y919.toInt ∧ y919.toInt ≤ 400 := by rw [← m920]; exact th_iv hW rh0 (by decide) (by decide) rfl
    simp only [m917, ((fm_I g904 rh0 rfl).trans ((fm_I g5 rh0 rfl).trans mF21)), m920, ((fm_I g904 rh0 rfl).trans ((fm_I g5 rh0 rfl).trans mF27))] at h914
    have z922 : GI f910 h0 gO gA ga (3) := gi_settle z908 hw912 rh0 g913 rfl (by omega) h915.1 h915.2.1 h915.2.2.1
    refine lv_aload_n hx hb dX12_behindSum_71 rfl (lv_at hl 1 rfl) ?_
    refine lv_iload_n hx hb dX12_behindSum_72 rfl (lv_at hl 0 rfl) ?_
    refine lv_iconst (v := 0) hx hb dX12_behindSum_73 (by decide) ?_
    have hw928 := hW.2.2.2
    refine t_callV (As := [.int 20, .int 0]) (rest := []) E hW (c_X12_push l G cI cJ cZ cD cR cT kp L f910 hW.2.2.2 _ h0 20 0 rh0 (by decide) (by decide) (by have hkq923 : (20 : Int32).toInt = 20 := rfl; have hkq924 : (0 : Int32).toInt = 0 := rfl; simp only [m920, and_true, true_and, true_or, or_true, false_or, or_false] <;> omega)) rh0 (by decide) rfl wk_X12_push tw_1828 rfl ⟨Nat.le_of_ble_eq_true rfl, Nat.le_of_ble_eq_true rfl⟩ ⟨rfl, rfl⟩ hl.1 rfl (Nat.le_of_ble_eq_true rfl) dX12_behindSum_74 ⟨Nat.le_of_ble_eq_true rfl, Nat.le_of_ble_eq_true rfl⟩ (fun v925 f926 H locs q927 hW => ?_)
    obtain ⟨rfl, g929, h930, h931⟩ := q927
    have hF := FM.tr hF g929 rfl
    have hk932 : (20 : Int32).toInt = 20 := rfl
    have hk933 : (0 : Int32).toInt = 0 := rfl
    obtain ⟨y934, m935⟩ : ∃ x : Int32, oI (f926 h0) 27 = x := ⟨_, rfl⟩
    have b936 : (0 : Int) ≤ y934.toInt ∧ y934.toInt ≤ 400 := by rw [← m935]; exact th_iv hW rh0 (by decide) (by decide) rfl
    simp only [m935, m920] at h930
    have z937 : GI f926 h0 gO gA ga (1) := gi_push z922 hw928 g929 rh0 rfl rfl (by rw [m920]; omega) h931 (by have hk : (20 : Int32).toInt = 20 := rfl; omega)
    refine lv_aload_n hx hb dX12_behindSum_77 rfl (lv_at hl 1 rfl) ?_
    have hw941 := hW.2.2.2
    refine t_callV (As := []) (rest := []) E hW (c_X12_next l G cI cJ cZ cD cR cT kp L f926 hW.2.2.2 _ h0 rh0 (by simp only [((fm_I g929 rh0 rfl).trans ((fm_I g913 rh0 rfl).trans ((fm_I g904 rh0 rfl).trans ((fm_I g5 rh0 rfl).trans mF12)))), ((fm_I g929 rh0 rfl).trans ((fm_I g913 rh0 rfl).trans ((fm_I g904 rh0 rfl).trans ((fm_I g5 rh0 rfl).trans mF14)))), and_true, true_and, true_or, or_true, false_or, or_false] <;> omega)) rh0 (by decide) rfl wk_X12_next tw_1773 rfl ⟨Nat.le_of_ble_eq_true rfl, Nat.le_of_ble_eq_true rfl⟩ ⟨rfl, rfl⟩ hl.1 rfl (Nat.le_of_ble_eq_true rfl) dX12_behindSum_78 ⟨Nat.le_of_ble_eq_true rfl, Nat.le_of_ble_eq_true rfl⟩ (fun v938 f939 H locs q940 hW => ?_)
    obtain ⟨rfl, g942, h943⟩ := q940
    have z944 : GI f939 h0 gO gA ga (1) := gi_keep z937 hw941 g942 rh0 rfl rfl (fun q => by rw [fm_I g942 rh0 rfl]; exact q)
    have hF := FM.tr hF g942 rfl
    obtain ⟨y945, m946⟩ : ∃ x : Int32, oI (f939 h0) 13 = x := ⟨_, rfl⟩
    have b947 : (0 : Int) ≤ y945.toInt ∧ y945.toInt ≤ 400 := by rw [← m946]; exact th_iv hW rh0 (by decide) (by decide) rfl
    obtain ⟨y948, m949⟩ : ∃ x : Int32, oI (f939 h0) 14 = x := ⟨_, rfl⟩
    have b950 : (0 : Int) ≤ y948.toInt ∧ y948.toInt ≤ 400 := by rw [← m949]; exact th_iv hW rh0 (by decide) (by decide) rfl
    obtain ⟨y951, m952⟩ : ∃ x : Int32, oI (f939 h0) 15 = x := ⟨_, rfl⟩
    have b953 : (0 : Int) ≤ y951.toInt ∧ y951.toInt ≤ 3 := by rw [← m952]; exact th_iv hW rh0 (by decide) (by decide) rfl
    obtain ⟨y954, m955⟩ : ∃ x : Int64, oJ (f939 h0) 16 = x := ⟨_, rfl⟩
    simp only [((fm_I g942 rh0 rfl).trans ((fm_I g929 rh0 rfl).trans ((fm_I g913 rh0 rfl).trans ((fm_I g904 rh0 rfl).trans ((fm_I g5 rh0 rfl).trans mF12))))), ((fm_I g929 rh0 rfl).trans ((fm_I g913 rh0 rfl).trans ((fm_I g904 rh0 rfl).trans ((fm_I g5 rh0 rfl).trans mF12)))), m946, ((fm_I g929 rh0 rfl).trans ((fm_I g913 rh0 rfl).trans ((fm_I g904 rh0 rfl).trans ((fm_I g5 rh0 rfl).trans mF13)))), m949, ((fm_I g929 rh0 rfl).trans ((fm_I g913 rh0 rfl).trans ((fm_I g904 rh0 rfl).trans ((fm_I g5 rh0 rfl).trans mF14)))), m952, ((fm_I g929 rh0 rfl).trans ((fm_I g913 rh0 rfl).trans ((fm_I g904 rh0 rfl).trans ((fm_I g5 rh0 rfl).trans mF15)))), m955, ((fm_J g929 rh0 rfl).trans ((fm_J g913 rh0 rfl).trans ((fm_J g904 rh0 rfl).trans ((fm_J g5 rh0 rfl).trans mW))))] at h943
    refine lv_iconst (v := 1) hx hb dX12_behindSum_81 (by decide) ?_
    exact e_I E hW rfl ⟨⟨_, rfl, (by have hk : (1 : Int32).toInt = 1 := rfl; first | decide | omega)⟩, hF, (by intro r hr; cases hr; have hkr : (1 : Int32).toInt = 1 := rfl; simp only [((fm_I g942 rh0 rfl).trans ((fm_I g929 rh0 rfl).trans ((fm_I g913 rh0 rfl).trans ((fm_I g904 rh0 rfl).trans ((fm_I g5 rh0 rfl).trans mF12))))), mF12, m946, mF13, m949, mF14, m952, mF15, ((fm_I g942 rh0 rfl).trans ((fm_I g929 rh0 rfl).trans ((fm_I g913 rh0 rfl).trans ((fm_I g904 rh0 rfl).trans ((fm_I g5 rh0 rfl).trans mF18))))), mF18, ((fm_I g942 rh0 rfl).trans ((fm_I g929 rh0 rfl).trans m917)), mF21, ((fm_I g942 rh0 rfl).trans m935), mF27, m955, mW, and_true, true_and, true_or, or_true, false_or, or_false] <;> omega), (by intro r hr; cases hr; have hk : (1 : Int32).toInt = 1 := rfl; rw [hk]; exact z944)⟩ dX12_behindSum_82
def ms_X12_behindTest : List (Nat × Nat) := [(12, 13), (12, 14), (12, 15), (12, 16), (12, 17), (12, 18), (12, 21), (12, 27), (12, 28), (842, 0), (843, 0), (845, 0), (846, 0)]
def po_X12_behindTest (kp : Nat → Nat) (L : List Nat) (f0 : Nat → va_E) (gO : Nat → Int32) (gA : Nat → Int32) (ga : Int) (h0 : Nat) : Option Value → (Nat → va_E) → Prop := fun v f => (∃ r : Int32, v = some (.int r) ∧ ((0 : Int) ≤ r.toInt ∧ r.toInt ≤ 4)) ∧ FM kp L ms_X12_behindTest f0 f ∧ (∀ r : Int32, v = some (.int r) → ((oI (f h0) 21).toInt + (oI (f h0) 27).toInt ≤ (oI (f h0) 13).toInt ∧ (oI (f h0) 13).toInt ≤ (oI (f h0) 14).toInt ∧ (oI (f h0) 14).toInt ≤ (oI (f0 h0) 12).toInt ∧ ((oI (f h0) 15).toInt = 0 ∨ (oI (f h0) 13).toInt < (oI (f h0) 14).toInt) ∧ (¬ (oI (f h0) 15).toInt = 1 ∨ (oJ (f h0) 16).toInt ≤ 26 ∨ (oI (f h0) 13).toInt + 2 ≤ (oI (f h0) 14).toInt) ∧ (oI (f0 h0) 21).toInt ≤ (oI (f h0) 21).toInt ∧ (oI (f0 h0) 13).toInt ≤ (oI (f h0) 13).toInt ∧ (¬ (oI (f0 h0) 18).toInt = 1 ∨ (oI (f h0) 18).toInt = 1) ∧ ((oI (f h0) 18).toInt = 1 ∨ (oI (f0 h0) 13).toInt < (oI (f h0) 13).toInt ∨ r.toInt = 4) ∧ 0 ≤ r.toInt ∧ r.toInt ≤ 4)) ∧ (∀ r : Int32, v = some (.int r) → GI f h0 gO gA ga (r.toInt))
set_option maxHeartbeats 4000000 in
set_option maxRecDepth 100000 in
theorem c_X12_behindTest (l : Launch) (G : va_G) (cI cJ cZ cD cR cT : ClassId) (kp : Nat → Nat) (L : List Nat) (f0 : Nat → va_E) (hTH : TH cI cJ cZ cD cR cT kp L f0) (sz : Nat) (gO : Nat → Int32) (gA : Nat → Int32) (ga : Int) (h0 : Nat) (rh0 : RK kp L h0 12) (hq : (oI (f0 h0) 21).toInt + (oI (f0 h0) 27).toInt ≤ (oI (f0 h0) 13).toInt ∧ (oI (f0 h0) 13).toInt ≤ (oI (f0 h0) 14).toInt ∧ (oI (f0 h0) 14).toInt ≤ (oI (f0 h0) 12).toInt ∧ ((oI (f0 h0) 15).toInt = 0 ∨ (oI (f0 h0) 13).toInt < (oI (f0 h0) 14).toInt) ∧ (¬ (oI (f0 h0) 15).toInt = 1 ∨ (oJ (f0 h0) 16).toInt ≤ 26 ∨ (oI (f0 h0) 13).toInt + 2 ≤ (oI (f0 h0) 14).toInt)) (hG : GI f0 h0 gO gA ga (2)) : Met l yX12_behindTest (Cond.code yX12_behindTest cX12_behindTest 2 (some .int) :: wTab) ({ frames := 4, cells := 0, slots := 0, locals := 101 }) (va_Pc [.ref h0] (PreW G (tys6 cI cJ cZ cD cR cT) (va_pl L f0) sz)) (QT (po_X12_behindTest kp L f0 gO gA ga h0) G cI cJ cZ cD cR cT (va_A (va_pl L f0) sz) kp L) 0 0 (va_A (va_pl L f0) sz) := by
  refine metT (by decide) (Nat.le_of_ble_eq_true rfl) hTH ?_
  intro p e s m below meth c A ls E hW hl
  obtain ⟨hx, hb, -, hml, hown, hts, -, -, -⟩ := id E
  have hF : FM kp L ms_X12_behindTest f0 f0 := FM.rf
  have hl : lv_has ls 2 [(0, .ref h0)] := hl
  obtain ⟨pF12, mF12⟩ : ∃ x : Int32, oI (f0 h0) 12 = x := ⟨_, rfl⟩
  have bF12 : (0 : Int) ≤ pF12.toInt ∧ pF12.toInt ≤ 400 := by rw [← mF12]; exact th_iv hW rh0 (by decide) (by decide) rfl
  obtain ⟨pF13, mF13⟩ : ∃ x : Int32, oI (f0 h0) 13 = x := ⟨_, rfl⟩
  have bF13 : (0 : Int) ≤ pF13.toInt ∧ pF13.toInt ≤ 400 := by rw [← mF13]; exact th_iv hW rh0 (by decide) (by decide) rfl
  obtain ⟨pF14, mF14⟩ : ∃ x : Int32, oI (f0 h0) 14 = x := ⟨_, rfl⟩
  have bF14 : (0 : Int) ≤ pF14.toInt ∧ pF14.toInt ≤ 400 := by rw [← mF14]; exact th_iv hW rh0 (by decide) (by decide) rfl
  obtain ⟨pF15, mF15⟩ : ∃ x : Int32, oI (f0 h0) 15 = x := ⟨_, rfl⟩
  have bF15 : (0 : Int) ≤ pF15.toInt ∧ pF15.toInt ≤ 3 := by rw [← mF15]; exact th_iv hW rh0 (by decide) (by decide) rfl
  obtain ⟨pF18, mF18⟩ : ∃ x : Int32, oI (f0 h0) 18 = x := ⟨_, rfl⟩
  have bF18 : (0 : Int) ≤ pF18.toInt ∧ pF18.toInt ≤ 1 := by rw [← mF18]; exact th_iv hW rh0 (by decide) (by decide) rfl
  obtain ⟨pF21, mF21⟩ : ∃ x : Int32, oI (f0 h0) 21 = x := ⟨_, rfl⟩
  have bF21 : (0 : Int) ≤ pF21.toInt ∧ pF21.toInt ≤ 400 := by rw [← mF21]; exact th_iv hW rh0 (by decide) (by decide) rfl
  obtain ⟨pF24, mF24⟩ : ∃ x : Int32, oI (f0 h0) 24 = x := ⟨_, rfl⟩
  have bF24 : (0 : Int) ≤ pF24.toInt ∧ pF24.toInt ≤ 50 := by rw [← mF24]; exact th_iv hW rh0 (by decide) (by decide) rfl
  obtain ⟨pF27, mF27⟩ : ∃ x : Int32, oI (f0 h0) 27 = x := ⟨_, rfl⟩
  have bF27 : (0 : Int) ≤ pF27.toInt ∧ pF27.toInt ≤ 400 := by rw [← mF27]; exact th_iv hW rh0 (by decide) (by decide) rfl
  obtain ⟨pW, mW⟩ : ∃ x : Int64, oJ (f0 h0) 16 = x := ⟨_, rfl⟩
  simp only [mF12, mF13, mF14, mF15, mF18, mF21, mF24, mF27, mW] at hq
  obtain ⟨pR, mR⟩ : ∃ x : Nat, oR (f0 h0) 2 = x := ⟨_, rfl⟩
  have rR : RK kp L pR 822 := by rw [← mR]; exact th_ref hTH rh0 (by decide) (by decide) rfl
  refine lv_aload_n hx hb dX12_behindTest_0 rfl (lv_at hl 0 rfl) ?_
  refine lv_ldc2 (v := 1476) hx hb hown (hts _ tw_1902) dX12_behindTest_1 ?_
  have hw4 := hW.2.2.2
  refine t_callV (As := [.long 1476]) (rest := []) E hW (c_X12_isWord l G cI cJ cZ cD cR cT kp L f0 hW.2.2.2 _ h0 1476 rh0 (by decide)) rh0 (by decide) rfl wk_X12_isWord tw_1797 rfl ⟨Nat.le_of_ble_eq_true rfl, Nat.le_of_ble_eq_true rfl⟩ ⟨rfl, rfl⟩ hl.1 rfl (Nat.le_of_ble_eq_true rfl) dX12_behindTest_4 ⟨Nat.le_of_ble_eq_true rfl, Nat.le_of_ble_eq_true rfl⟩ (fun v1 f2 H locs q3 hW => ?_)
  obtain ⟨⟨x6, rfl, p7⟩, g5⟩ := q3
  simp only [mF15, mW] at p7
  have p7 : (x6.toInt = 1 ∧ pF15.toInt = 1 ∧ pW.toInt = 1476) ∨ x6.toInt = 0 := p7
  have z8 : GI f2 h0 gO gA ga (2) := gi_keep hG hw4 g5 rh0 rfl rfl (fun q => by rw [fm_I g5 rh0 rfl]; exact q)
  have hF := FM.tr hF g5 rfl
  refine lv_istore_n (lv' := [(1, .int x6), (0, .ref h0)]) hx hb dX12_behindTest_7 rfl hl (by decide) rfl (fun ls hl => ?_)
  refine lv_iload_n hx hb dX12_behindTest_8 rfl (lv_at hl 0 rfl) ?_
  refine q_if_ne (tgt := 22) hx hb dX12_behindTest_9 (by decide) rfl (fun c9 => ?_) (fun c9 => ?_)
  · have q10 : pF15.toInt = 1 ∧ pW.toInt = 1476 := by omega
    clear p7
    refine lv_aload_n hx hb dX12_behindTest_22 rfl (lv_at hl 1 rfl) ?_
    refine lv_iload_n hx hb dX12_behindTest_23 rfl (lv_at hl 0 rfl) ?_
    refine q_if_eq (tgt := 31) hx hb dX12_behindTest_24 (by decide) rfl (fun c11 => ?_) (fun c11 => ?_)
    · exfalso; omega
    · refine lv_iconst (v := 2) hx hb dX12_behindTest_27 (by decide) ?_
      refine lv_goto (tgt := 32) hx hb dX12_behindTest_28 (by decide) ?_
      have hw16 := hW.2.2.2
      refine t_callV (As := [.int 2]) (rest := []) E hW (c_X12_settle l G cI cJ cZ cD cR cT kp L f2 hW.2.2.2 _ h0 2 rh0 (by decide) (by have hkq12 : (2 : Int32).toInt = 2 := rfl; simp only [((fm_I g5 rh0 rfl).trans mF21), ((fm_I g5 rh0 rfl).trans mF27), and_true, true_and, true_or, or_true, false_or, or_false] <;> omega)) rh0 (by decide) rfl wk_X12_settle tw_1882 rfl ⟨Nat.le_of_ble_eq_true rfl, Nat.le_of_ble_eq_true rfl⟩ ⟨rfl, rfl⟩ hl.1 rfl (Nat.le_of_ble_eq_true rfl) dX12_behindTest_32 ⟨Nat.le_of_ble_eq_true rfl, Nat.le_of_ble_eq_true rfl⟩ (fun v13 f14 H locs q15 hW => ?_)
      obtain ⟨rfl, g17, h18, h19⟩ := q15
      have hF := FM.tr hF g17 rfl
      have hk20 : (2 : Int32).toInt = 2 := rfl
      obtain ⟨y21, m22⟩ : ∃ x : Int32, oI (f14 h0) 21 = x := ⟨_, rfl⟩
      have b23 : (0 : Int) ≤ y21.toInt ∧ y21.toInt ≤ 400 := by rw [← m22]; exact th_iv hW rh0 (by decide) (by decide) rfl
      obtain ⟨y24, m25⟩ : ∃ x : Int32, oI (f14 h0) 27 = x := ⟨_, rfl⟩
      have b26 : (0 : Int) ≤ y24.toInt ∧ y24.toInt ≤ 400 := by rw [← m25]; exact th_iv hW rh0 (by decide) (by decide) rfl
      simp only [m22, ((fm_I g5 rh0 rfl).trans mF21), m25, ((fm_I g5 rh0 rfl).trans mF27)] at h18
      have z27 : GI f14 h0 gO gA ga (2) := gi_settle z8 hw16 rh0 g17 rfl (by omega) h19.1 h19.2.1 h19.2.2.1
      refine lv_aload_n hx hb dX12_behindTest_35 rfl (lv_at hl 1 rfl) ?_
      refine lv_iload_n hx hb dX12_behindTest_36 rfl (lv_at hl 0 rfl) ?_
      refine q_if_eq (tgt := 45) hx hb dX12_behindTest_37 (by decide) rfl (fun c28 => ?_) (fun c28 => ?_)
      · exfalso; omega
      · refine lv_bipush (v := 28) hx hb dX12_behindTest_40 (by decide) ?_
        refine lv_goto (tgt := 47) hx hb dX12_behindTest_42 (by decide) ?_
        refine lv_aload_n hx hb dX12_behindTest_47 rfl (lv_at hl 1 rfl) ?_
        refine fg_RX12_229 E hW rh0 dX12_behindTest_48 (fun y29 m30 b31 => ?_)
        obtain rfl : y21 = y29 := (m22).symm.trans m30
        have hw36 := hW.2.2.2
        refine t_callV (As := [.int 28, .int y21]) (rest := []) E hW (c_X12_push l G cI cJ cZ cD cR cT kp L f14 hW.2.2.2 _ h0 28 y21 rh0 (by decide) (by omega) (by have hkq32 : (28 : Int32).toInt = 28 := rfl; simp only [m25, and_true, true_and, true_or, or_true, false_or, or_false] <;> omega)) rh0 (by decide) rfl wk_X12_push tw_1828 rfl ⟨Nat.le_of_ble_eq_true rfl, Nat.le_of_ble_eq_true rfl⟩ ⟨rfl, rfl⟩ hl.1 rfl (Nat.le_of_ble_eq_true rfl) dX12_behindTest_51 ⟨Nat.le_of_ble_eq_true rfl, Nat.le_of_ble_eq_true rfl⟩ (fun v33 f34 H locs q35 hW => ?_)
        obtain ⟨rfl, g37, h38, h39⟩ := q35
        have hF := FM.tr hF g37 rfl
        have hk40 : (28 : Int32).toInt = 28 := rfl
        obtain ⟨y41, m42⟩ : ∃ x : Int32, oI (f34 h0) 27 = x := ⟨_, rfl⟩
        have b43 : (0 : Int) ≤ y41.toInt ∧ y41.toInt ≤ 400 := by rw [← m42]; exact th_iv hW rh0 (by decide) (by decide) rfl
        simp only [m42, m25] at h38
        refine lv_aload_n hx hb dX12_behindTest_54 rfl (lv_at hl 1 rfl) ?_
        refine lv_iload_n hx hb dX12_behindTest_55 rfl (lv_at hl 0 rfl) ?_
        refine q_if_eq (tgt := 64) hx hb dX12_behindTest_56 (by decide) rfl (fun c45 => ?_) (fun c45 => ?_)
        · exfalso; omega
        · refine lv_bipush (v := 28) hx hb dX12_behindTest_59 (by decide) ?_
          refine lv_goto (tgt := 66) hx hb dX12_behindTest_61 (by decide) ?_
          refine lv_iconst (v := 0) hx hb dX12_behindTest_66 (by decide) ?_
          have hw51 := hW.2.2.2
          refine t_callV (As := [.int 28, .int 0]) (rest := []) E hW (c_X12_emit l G cI cJ cZ cD cR cT kp L f34 hW.2.2.2 _ h0 28 0 rh0 (by have hkq46 : (28 : Int32).toInt = 28 := rfl; have hkq47 : (0 : Int32).toInt = 0 := rfl; simp only [((fm_I g37 rh0 rfl).trans m30), and_true, true_and, true_or, or_true, false_or, or_false] <;> omega)) rh0 (by decide) rfl wk_X12_emit tw_1852 rfl ⟨Nat.le_of_ble_eq_true rfl, Nat.le_of_ble_eq_true rfl⟩ ⟨rfl, rfl⟩ hl.1 rfl (Nat.le_of_ble_eq_true rfl) dX12_behindTest_67 ⟨Nat.le_of_ble_eq_true rfl, Nat.le_of_ble_eq_true rfl⟩ (fun v48 f49 H locs q50 hW => ?_)
          obtain ⟨rfl, g52, h53, h54⟩ := q50
          have hF := FM.tr hF g52 rfl
          have hk55 : (28 : Int32).toInt = 28 := rfl
          have hk56 : (0 : Int32).toInt = 0 := rfl
          obtain ⟨y57, m58⟩ : ∃ x : Int32, oI (f49 h0) 21 = x := ⟨_, rfl⟩
          have b59 : (0 : Int) ≤ y57.toInt ∧ y57.toInt ≤ 400 := by rw [← m58]; exact th_iv hW rh0 (by decide) (by decide) rfl
          simp only [m58, ((fm_I g37 rh0 rfl).trans m30)] at h53
          have z60 : GI f49 h0 gO gA ga 0 := gi_and z27 hw36 hw51 g37 g52 rh0 rfl rfl rfl rfl (by rw [m25]; omega) (by decide) m30.symm h39 h54
          refine lv_aload_n hx hb dX12_behindTest_70 rfl (lv_at hl 1 rfl) ?_
          have hw64 := hW.2.2.2
          refine t_callV (As := []) (rest := []) E hW (c_X12_next l G cI cJ cZ cD cR cT kp L f49 hW.2.2.2 _ h0 rh0 (by simp only [((fm_I g52 rh0 rfl).trans ((fm_I g37 rh0 rfl).trans ((fm_I g17 rh0 rfl).trans ((fm_I g5 rh0 rfl).trans mF12)))), ((fm_I g52 rh0 rfl).trans ((fm_I g37 rh0 rfl).trans ((fm_I g17 rh0 rfl).trans ((fm_I g5 rh0 rfl).trans mF14)))), and_true, true_and, true_or, or_true, false_or, or_false] <;> omega)) rh0 (by decide) rfl wk_X12_next tw_1773 rfl ⟨Nat.le_of_ble_eq_true rfl, Nat.le_of_ble_eq_true rfl⟩ ⟨rfl, rfl⟩ hl.1 rfl (Nat.le_of_ble_eq_true rfl) dX12_behindTest_71 ⟨Nat.le_of_ble_eq_true rfl, Nat.le_of_ble_eq_true rfl⟩ (fun v61 f62 H locs q63 hW => ?_)
          obtain ⟨rfl, g65, h66⟩ := q63
          have z67 : GI f62 h0 gO gA ga (0) := gi_keep z60 hw64 g65 rh0 rfl rfl (fun q => by rw [fm_I g65 rh0 rfl]; exact q)
          have hF := FM.tr hF g65 rfl
          obtain ⟨y68, m69⟩ : ∃ x : Int32, oI (f62 h0) 13 = x := ⟨_, rfl⟩
          have b70 : (0 : Int) ≤ y68.toInt ∧ y68.toInt ≤ 400 := by rw [← m69]; exact th_iv hW rh0 (by decide) (by decide) rfl
          obtain ⟨y71, m72⟩ : ∃ x : Int32, oI (f62 h0) 14 = x := ⟨_, rfl⟩
          have b73 : (0 : Int) ≤ y71.toInt ∧ y71.toInt ≤ 400 := by rw [← m72]; exact th_iv hW rh0 (by decide) (by decide) rfl
          obtain ⟨y74, m75⟩ : ∃ x : Int32, oI (f62 h0) 15 = x := ⟨_, rfl⟩
          have b76 : (0 : Int) ≤ y74.toInt ∧ y74.toInt ≤ 3 := by rw [← m75]; exact th_iv hW rh0 (by decide) (by decide) rfl
          obtain ⟨y77, m78⟩ : ∃ x : Int64, oJ (f62 h0) 16 = x := ⟨_, rfl⟩
          simp only [((fm_I g65 rh0 rfl).trans ((fm_I g52 rh0 rfl).trans ((fm_I g37 rh0 rfl).trans ((fm_I g17 rh0 rfl).trans ((fm_I g5 rh0 rfl).trans mF12))))), ((fm_I g52 rh0 rfl).trans ((fm_I g37 rh0 rfl).trans ((fm_I g17 rh0 rfl).trans ((fm_I g5 rh0 rfl).trans mF12)))), m69, ((fm_I g52 rh0 rfl).trans ((fm_I g37 rh0 rfl).trans ((fm_I g17 rh0 rfl).trans ((fm_I g5 rh0 rfl).trans mF13)))), m72, ((fm_I g52 rh0 rfl).trans ((fm_I g37 rh0 rfl).trans ((fm_I g17 rh0 rfl).trans ((fm_I g5 rh0 rfl).trans mF14)))), m75, ((fm_I g52 rh0 rfl).trans ((fm_I g37 rh0 rfl).trans ((fm_I g17 rh0 rfl).trans ((fm_I g5 rh0 rfl).trans mF15)))), m78, ((fm_J g52 rh0 rfl).trans ((fm_J g37 rh0 rfl).trans ((fm_J g17 rh0 rfl).trans ((fm_J g5 rh0 rfl).trans mW))))] at h66
          refine lv_iconst (v := 0) hx hb dX12_behindTest_74 (by decide) ?_
          exact e_I E hW rfl ⟨⟨_, rfl, (by have hk : (0 : Int32).toInt = 0 := rfl; first | decide | omega)⟩, hF, (by intro r hr; cases hr; have hkr : (0 : Int32).toInt = 0 := rfl; simp only [((fm_I g65 rh0 rfl).trans ((fm_I g52 rh0 rfl).trans ((fm_I g37 rh0 rfl).trans ((fm_I g17 rh0 rfl).trans ((fm_I g5 rh0 rfl).trans mF12))))), mF12, m69, mF13, m72, mF14, m75, mF15, ((fm_I g65 rh0 rfl).trans ((fm_I g52 rh0 rfl).trans ((fm_I g37 rh0 rfl).trans ((fm_I g17 rh0 rfl).trans ((fm_I g5 rh0 rfl).trans mF18))))), mF18, ((fm_I g65 rh0 rfl).trans m58), mF21, ((fm_I g65 rh0 rfl).trans ((fm_I g52 rh0 rfl).trans m42)), mF27, m78, mW, and_true, true_and, true_or, or_true, false_or, or_false] <;> omega), (by intro r hr; cases hr; have hk : (0 : Int32).toInt = 0 := rfl; rw [hk]; exact z67)⟩ dX12_behindTest_75
  · clear p7
    refine lv_aload_n hx hb dX12_behindTest_12 rfl (lv_at hl 1 rfl) ?_
    refine lv_ldc2 (v := 498) hx hb hown (hts _ tw_1903) dX12_behindTest_13 ?_
    have hw82 := hW.2.2.2
    refine t_callV (As := [.long 498]) (rest := []) E hW (c_X12_isWord l G cI cJ cZ cD cR cT kp L f2 hW.2.2.2 _ h0 498 rh0 (by decide)) rh0 (by decide) rfl wk_X12_isWord tw_1797 rfl ⟨Nat.le_of_ble_eq_true rfl, Nat.le_of_ble_eq_true rfl⟩ ⟨rfl, rfl⟩ hl.1 rfl (Nat.le_of_ble_eq_true rfl) dX12_behindTest_16 ⟨Nat.le_of_ble_eq_true rfl, Nat.le_of_ble_eq_true rfl⟩ (fun v79 f80 H locs q81 hW => ?_)
    obtain ⟨⟨x84, rfl, p85⟩, g83⟩ := q81
    simp only [((fm_I g5 rh0 rfl).trans mF15), ((fm_J g5 rh0 rfl).trans mW)] at p85
    have p85 : (x84.toInt = 1 ∧ pF15.toInt = 1 ∧ pW.toInt = 498) ∨ x84.toInt = 0 := p85
    have z86 : GI f80 h0 gO gA ga (2) := gi_keep z8 hw82 g83 rh0 rfl rfl (fun q => by rw [fm_I g83 rh0 rfl]; exact q)
    have hF := FM.tr hF g83 rfl
    refine q_if_eq (tgt := 76) hx hb dX12_behindTest_19 (by decide) rfl (fun c87 => ?_) (fun c87 => ?_)
    · clear p85
      refine lv_aload_n hx hb dX12_behindTest_76 rfl (lv_at hl 1 rfl) ?_
      have hw91 := hW.2.2.2
      refine t_callV (As := []) (rest := []) E hW (c_X12_inner l G cI cJ cZ cD cR cT kp L f80 hW.2.2.2 _ h0 rh0) rh0 (by decide) rfl wk_X12_inner tw_1886 rfl ⟨Nat.le_of_ble_eq_true rfl, Nat.le_of_ble_eq_true rfl⟩ ⟨rfl, rfl⟩ hl.1 rfl (Nat.le_of_ble_eq_true rfl) dX12_behindTest_77 ⟨Nat.le_of_ble_eq_true rfl, Nat.le_of_ble_eq_true rfl⟩ (fun v88 f89 H locs q90 hW => ?_)
      obtain ⟨⟨x94, rfl, p95⟩, g92, h93⟩ := q90
      have z96 : GI f89 h0 gO gA ga (2) := gi_keep z86 hw91 g92 rh0 rfl rfl (fun q => by rw [fm_I g92 rh0 rfl]; exact q)
      have hF := FM.tr hF g92 rfl
      have h93 := h93 _ rfl
      have q97 : x94.toInt = -1 ∨ 30 ≤ x94.toInt := inn_r h93
      have z98 : innI (vP f89 h0) x94.toInt (oI (f89 h0) 27).toInt := by obtain ⟨e1, -, e3⟩ := p_keep hw91 g92 rh0 rfl; rw [e1, e3]; exact h93
      refine lv_iconst (v := (-1)) hx hb dX12_behindTest_80 (by decide) ?_
      refine q_icmp_ne (Y := -1) (tgt := 86) hx hb dX12_behindTest_81 (by decide) rfl rfl (fun c99 => ?_) (fun c99 => ?_)
      · refine lv_aload_n hx hb dX12_behindTest_86 rfl (lv_at hl 1 rfl) ?_
        refine lv_aload_n hx hb dX12_behindTest_87 rfl (lv_at hl 1 rfl) ?_
        refine lv_bipush (v := 41) hx hb dX12_behindTest_88 (by decide) ?_
        have hw103 := hW.2.2.2
        refine t_callV (As := [.int 41]) (rest := [.ref h0]) E hW (c_X12_isSign l G cI cJ cZ cD cR cT kp L f89 hW.2.2.2 _ h0 41 rh0 (by decide)) rh0 (by decide) rfl wk_X12_isSign tw_1832 rfl ⟨Nat.le_of_ble_eq_true rfl, Nat.le_of_ble_eq_true rfl⟩ ⟨rfl, rfl⟩ hl.1 rfl (Nat.le_of_ble_eq_true rfl) dX12_behindTest_90 ⟨Nat.le_of_ble_eq_true rfl, Nat.le_of_ble_eq_true rfl⟩ (fun v100 f101 H locs q102 hW => ?_)
        obtain ⟨⟨x105, rfl, p106⟩, g104⟩ := q102
        simp only [((fm_I g92 rh0 rfl).trans ((fm_I g83 rh0 rfl).trans ((fm_I g5 rh0 rfl).trans mF15))), ((fm_J g92 rh0 rfl).trans ((fm_J g83 rh0 rfl).trans ((fm_J g5 rh0 rfl).trans mW)))] at p106
        have p106 : (x105.toInt = 1 ∧ pF15.toInt = 3) ∨ x105.toInt = 0 := p106
        have z107 : innI (vP f101 h0) x94.toInt (oI (f101 h0) 27).toInt := by obtain ⟨e1, -, e3⟩ := p_keep hw103 g104 rh0 rfl; rw [e1, e3]; exact z98
        have z108 : GI f101 h0 gO gA ga (2) := gi_keep z96 hw103 g104 rh0 rfl rfl (fun q => by rw [fm_I g104 rh0 rfl]; exact q)
        have hF := FM.tr hF g104 rfl
        have hw112 := hW.2.2.2
        refine t_callV (As := [.int x105]) (rest := []) E hW (c_X12_must l G cI cJ cZ cD cR cT kp L f101 hW.2.2.2 _ h0 x105 rh0 (by omega) (by simp only [((fm_I g104 rh0 rfl).trans ((fm_I g92 rh0 rfl).trans ((fm_I g83 rh0 rfl).trans ((fm_I g5 rh0 rfl).trans mF12)))), ((fm_I g104 rh0 rfl).trans ((fm_I g92 rh0 rfl).trans ((fm_I g83 rh0 rfl).trans ((fm_I g5 rh0 rfl).trans mF13)))), ((fm_I g104 rh0 rfl).trans ((fm_I g92 rh0 rfl).trans ((fm_I g83 rh0 rfl).trans ((fm_I g5 rh0 rfl).trans mF14)))), ((fm_I g104 rh0 rfl).trans ((fm_I g92 rh0 rfl).trans ((fm_I g83 rh0 rfl).trans ((fm_I g5 rh0 rfl).trans mF15)))), ((fm_J g104 rh0 rfl).trans ((fm_J g92 rh0 rfl).trans ((fm_J g83 rh0 rfl).trans ((fm_J g5 rh0 rfl).trans mW)))), and_true, true_and, true_or, or_true, false_or, or_false] <;> omega)) rh0 (by decide) rfl wk_X12_must tw_1807 rfl ⟨Nat.le_of_ble_eq_true rfl, Nat.le_of_ble_eq_true rfl⟩ ⟨rfl, rfl⟩ hl.1 rfl (Nat.le_of_ble_eq_true rfl) dX12_behindTest_93 ⟨Nat.le_of_ble_eq_true rfl, Nat.le_of_ble_eq_true rfl⟩ (fun v109 f110 H locs q111 hW => ?_)
        obtain ⟨rfl, g113, h114⟩ := q111
        have z115 : innI (vP f110 h0) x94.toInt (oI (f110 h0) 27).toInt := by obtain ⟨e1, -, e3⟩ := p_keep hw112 g113 rh0 rfl; rw [e1, e3]; exact z107
        have hF := FM.tr hF g113 rfl
        obtain ⟨y116, m117⟩ : ∃ x : Int32, oI (f110 h0) 13 = x := ⟨_, rfl⟩
        have b118 : (0 : Int) ≤ y116.toInt ∧ y116.toInt ≤ 400 := by rw [← m117]; exact th_iv hW rh0 (by decide) (by decide) rfl
        obtain ⟨y119, m120⟩ : ∃ x : Int32, oI (f110 h0) 14 = x := ⟨_, rfl⟩
        have b121 : (0 : Int) ≤ y119.toInt ∧ y119.toInt ≤ 400 := by rw [← m120]; exact th_iv hW rh0 (by decide) (by decide) rfl
        obtain ⟨y122, m123⟩ : ∃ x : Int32, oI (f110 h0) 15 = x := ⟨_, rfl⟩
        have b124 : (0 : Int) ≤ y122.toInt ∧ y122.toInt ≤ 3 := by rw [← m123]; exact th_iv hW rh0 (by decide) (by decide) rfl
        obtain ⟨y125, m126⟩ : ∃ x : Int32, oI (f110 h0) 18 = x := ⟨_, rfl⟩
        have b127 : (0 : Int) ≤ y125.toInt ∧ y125.toInt ≤ 1 := by rw [← m126]; exact th_iv hW rh0 (by decide) (by decide) rfl
        obtain ⟨y128, m129⟩ : ∃ x : Int64, oJ (f110 h0) 16 = x := ⟨_, rfl⟩
        simp only [((fm_I g113 rh0 rfl).trans ((fm_I g104 rh0 rfl).trans ((fm_I g92 rh0 rfl).trans ((fm_I g83 rh0 rfl).trans ((fm_I g5 rh0 rfl).trans mF12))))), ((fm_I g104 rh0 rfl).trans ((fm_I g92 rh0 rfl).trans ((fm_I g83 rh0 rfl).trans ((fm_I g5 rh0 rfl).trans mF12)))), m117, ((fm_I g104 rh0 rfl).trans ((fm_I g92 rh0 rfl).trans ((fm_I g83 rh0 rfl).trans ((fm_I g5 rh0 rfl).trans mF13)))), m120, ((fm_I g104 rh0 rfl).trans ((fm_I g92 rh0 rfl).trans ((fm_I g83 rh0 rfl).trans ((fm_I g5 rh0 rfl).trans mF14)))), m123, ((fm_I g104 rh0 rfl).trans ((fm_I g92 rh0 rfl).trans ((fm_I g83 rh0 rfl).trans ((fm_I g5 rh0 rfl).trans mF15)))), m126, ((fm_I g104 rh0 rfl).trans ((fm_I g92 rh0 rfl).trans ((fm_I g83 rh0 rfl).trans ((fm_I g5 rh0 rfl).trans mF18)))), m129, ((fm_J g104 rh0 rfl).trans ((fm_J g92 rh0 rfl).trans ((fm_J g83 rh0 rfl).trans ((fm_J g5 rh0 rfl).trans mW))))] at h114
        have z130 : GI f110 h0 gO gA ga (2) := gi_keep z108 hw112 g113 rh0 rfl rfl (fun q => by rw [((fm_I g104 rh0 rfl).trans ((fm_I g92 rh0 rfl).trans ((fm_I g83 rh0 rfl).trans ((fm_I g5 rh0 rfl).trans mF18))))] at q; rw [m126]; omega)
        refine lv_aload_n hx hb dX12_behindTest_96 rfl (lv_at hl 1 rfl) ?_
        refine fg_RX12_193 E hW rh0 dX12_behindTest_97 (fun y131 m132 b133 => ?_)
        obtain rfl : y125 = y131 := (m126).symm.trans m132
        refine q_if_ne (tgt := 128) hx hb dX12_behindTest_100 (by decide) rfl (fun c134 => ?_) (fun c134 => ?_)
        · refine lv_iconst (v := 2) hx hb dX12_behindTest_128 (by decide) ?_
          exact e_I E hW rfl ⟨⟨_, rfl, (by have hk : (2 : Int32).toInt = 2 := rfl; first | decide | omega)⟩, hF, (by intro r hr; cases hr; have hkr : (2 : Int32).toInt = 2 := rfl; simp only [((fm_I g113 rh0 rfl).trans ((fm_I g104 rh0 rfl).trans ((fm_I g92 rh0 rfl).trans ((fm_I g83 rh0 rfl).trans ((fm_I g5 rh0 rfl).trans mF12))))), mF12, m117, mF13, m120, mF14, m123, mF15, m132, mF18, ((fm_I g113 rh0 rfl).trans ((fm_I g104 rh0 rfl).trans ((fm_I g92 rh0 rfl).trans ((fm_I g83 rh0 rfl).trans ((fm_I g5 rh0 rfl).trans mF21))))), mF21, ((fm_I g113 rh0 rfl).trans ((fm_I g104 rh0 rfl).trans ((fm_I g92 rh0 rfl).trans ((fm_I g83 rh0 rfl).trans ((fm_I g5 rh0 rfl).trans mF27))))), mF27, m129, mW, and_true, true_and, true_or, or_true, false_or, or_false] <;> omega), (by intro r hr; cases hr; have hk : (2 : Int32).toInt = 2 := rfl; rw [hk]; exact (Or.inl (by rw [m132]; omega)))⟩ dX12_behindTest_129
        · refine lv_aload_n hx hb dX12_behindTest_103 rfl (lv_at hl 1 rfl) ?_
          refine lv_iconst (v := 1) hx hb dX12_behindTest_104 (by decide) ?_
          have hw139 := hW.2.2.2
          refine t_callV (As := [.int 1]) (rest := []) E hW (c_X12_settle l G cI cJ cZ cD cR cT kp L f110 hW.2.2.2 _ h0 1 rh0 (by decide) (by have hkq135 : (1 : Int32).toInt = 1 := rfl; simp only [((fm_I g113 rh0 rfl).trans ((fm_I g104 rh0 rfl).trans ((fm_I g92 rh0 rfl).trans ((fm_I g83 rh0 rfl).trans ((fm_I g5 rh0 rfl).trans mF21))))), ((fm_I g113 rh0 rfl).trans ((fm_I g104 rh0 rfl).trans ((fm_I g92 rh0 rfl).trans ((fm_I g83 rh0 rfl).trans ((fm_I g5 rh0 rfl).trans mF27))))), and_true, true_and, true_or, or_true, false_or, or_false] <;> omega)) rh0 (by decide) rfl wk_X12_settle tw_1882 rfl ⟨Nat.le_of_ble_eq_true rfl, Nat.le_of_ble_eq_true rfl⟩ ⟨rfl, rfl⟩ hl.1 rfl (Nat.le_of_ble_eq_true rfl) dX12_behindTest_105 ⟨Nat.le_of_ble_eq_true rfl, Nat.le_of_ble_eq_true rfl⟩ (fun v136 f137 H locs q138 hW => ?_)
          obtain ⟨rfl, g140, h141, h142⟩ := q138
          have hF := FM.tr hF g140 rfl
          have hk143 : (1 : Int32).toInt = 1 := rfl
          obtain ⟨y144, m145⟩ : ∃ x : Int32, oI (f137 h0) 21 = x := ⟨_, rfl⟩
          have b146 : (0 : Int) ≤ y144.toInt ∧ y144.toInt ≤ 400 := by rw [← m145]; exact th_iv hW rh0 (by decide) (by decide) rfl
          obtain ⟨y147, m148⟩ : ∃ x : Int32, oI (f137 h0) 27 = x := ⟨_, rfl⟩
          have b149 : (0 : Int) ≤ y147.toInt ∧ y147.toInt ≤ 400 := by rw [← m148]; exact th_iv hW rh0 (by decide) (by decide) rfl
          simp only [m145, ((fm_I g113 rh0 rfl).trans ((fm_I g104 rh0 rfl).trans ((fm_I g92 rh0 rfl).trans ((fm_I g83 rh0 rfl).trans ((fm_I g5 rh0 rfl).trans mF21))))), m148, ((fm_I g113 rh0 rfl).trans ((fm_I g104 rh0 rfl).trans ((fm_I g92 rh0 rfl).trans ((fm_I g83 rh0 rfl).trans ((fm_I g5 rh0 rfl).trans mF27)))))] at h141
          have z150 : GI f137 h0 gO gA ga (2) := gi_settle z130 hw139 rh0 g140 rfl (by omega) h142.1 h142.2.1 h142.2.2.1
          refine lv_aload_n hx hb dX12_behindTest_108 rfl (lv_at hl 1 rfl) ?_
          refine lv_dup hx hb dX12_behindTest_109 rfl ?_
          refine fg_RX12_232 E hW rh0 dX12_behindTest_110 (fun y151 m152 b153 => ?_)
          obtain rfl : y147 = y151 := (m148).symm.trans m152
          refine lv_iconst (v := 1) hx hb dX12_behindTest_113 (by decide) ?_
          refine q_isub (Y := 1) hx hb dX12_behindTest_114 rfl rfl (by omega) (fun x154 h155 => ?_)
          have z156 := close30 (f1 := f137) z130 (by rw [m132]; omega) z115 (by omega) rfl h142.2.1 h142.2.2.1 h142.2.2.2.1 h142.2.2.2.2
          have q157 := z156.1
          rw [m152] at q157
          have hw162 := hW.2.2.2
          refine fp_RX12_232 E hW rh0 (by omega) dX12_behindTest_115 (fun f158 H locs e159 n160 g161 hW => ?_)
          have m163 : oR (f158 h0) 2 = pR := ((fm_R g161 rh0 rfl).trans ((fm_R g140 rh0 rfl).trans ((fm_R g113 rh0 rfl).trans ((fm_R g104 rh0 rfl).trans ((fm_R g92 rh0 rfl).trans ((fm_R g83 rh0 rfl).trans ((fm_R g5 rh0 rfl).trans mR)))))))
          have m164 : oI (f158 h0) 12 = pF12 := ((fm_I g161 rh0 rfl).trans ((fm_I g140 rh0 rfl).trans ((fm_I g113 rh0 rfl).trans ((fm_I g104 rh0 rfl).trans ((fm_I g92 rh0 rfl).trans ((fm_I g83 rh0 rfl).trans ((fm_I g5 rh0 rfl).trans mF12)))))))
          have m165 : oI (f158 h0) 24 = pF24 := ((fm_I g161 rh0 rfl).trans ((fm_I g140 rh0 rfl).trans ((fm_I g113 rh0 rfl).trans ((fm_I g104 rh0 rfl).trans ((fm_I g92 rh0 rfl).trans ((fm_I g83 rh0 rfl).trans ((fm_I g5 rh0 rfl).trans mF24)))))))
          have z166 : GI f158 h0 gO gA ga (2) := gi_close z150 hw162 rh0 g161 e159 (by rw [m152]; omega) z156.1 (by omega) z156.2
          have hF := FM.tr hF g161 rfl
          refine lv_aload_n hx hb dX12_behindTest_118 rfl (lv_at hl 1 rfl) ?_
          refine lv_dup hx hb dX12_behindTest_119 rfl ?_
          refine fg_RX12_284 E hW rh0 dX12_behindTest_120 (fun y167 m168 => ?_)
          refine lv_iconst (v := 1) hx hb dX12_behindTest_123 (by decide) ?_
          refine u_isub hx hb dX12_behindTest_124 (fun x170 => ?_)
          have hw175 := hW.2.2.2
          refine fp_RX12_284 E hW rh0 dX12_behindTest_125 (fun f171 H locs e172 n173 g174 hW => ?_)
          have z176 : GI f171 h0 gO gA ga (2) := gi_keep z166 hw175 g174 rh0 rfl rfl (fun q => by rw [fm_I g174 rh0 rfl]; exact q)
          have hF := FM.tr hF g174 rfl
          refine lv_iconst (v := 2) hx hb dX12_behindTest_128 (by decide) ?_
          exact e_I E hW rfl ⟨⟨_, rfl, (by have hk : (2 : Int32).toInt = 2 := rfl; first | decide | omega)⟩, hF, (by intro r hr; cases hr; have hkr : (2 : Int32).toInt = 2 := rfl; simp only [((fm_I g174 rh0 rfl).trans m164), mF12, ((fm_I g174 rh0 rfl).trans ((fm_I g161 rh0 rfl).trans ((fm_I g140 rh0 rfl).trans m117))), mF13, ((fm_I g174 rh0 rfl).trans ((fm_I g161 rh0 rfl).trans ((fm_I g140 rh0 rfl).trans m120))), mF14, ((fm_I g174 rh0 rfl).trans ((fm_I g161 rh0 rfl).trans ((fm_I g140 rh0 rfl).trans m123))), mF15, ((fm_I g174 rh0 rfl).trans ((fm_I g161 rh0 rfl).trans ((fm_I g140 rh0 rfl).trans m132))), mF18, ((fm_I g174 rh0 rfl).trans ((fm_I g161 rh0 rfl).trans m145)), mF21, ((fm_I g174 rh0 rfl).trans e159), mF27, ((fm_J g174 rh0 rfl).trans ((fm_J g161 rh0 rfl).trans ((fm_J g140 rh0 rfl).trans m129))), mW, and_true, true_and, true_or, or_true, false_or, or_false] <;> omega), (by intro r hr; cases hr; have hk : (2 : Int32).toInt = 2 := rfl; rw [hk]; exact z176)⟩ dX12_behindTest_129
      · refine lv_iconst (v := 4) hx hb dX12_behindTest_84 (by decide) ?_
        exact e_I E hW rfl ⟨⟨_, rfl, (by have hk : (4 : Int32).toInt = 4 := rfl; first | decide | omega)⟩, hF, (by intro r hr; cases hr; have hkr : (4 : Int32).toInt = 4 := rfl; simp only [((fm_I g92 rh0 rfl).trans ((fm_I g83 rh0 rfl).trans ((fm_I g5 rh0 rfl).trans mF12))), mF12, ((fm_I g92 rh0 rfl).trans ((fm_I g83 rh0 rfl).trans ((fm_I g5 rh0 rfl).trans mF13))), mF13, ((fm_I g92 rh0 rfl).trans ((fm_I g83 rh0 rfl).trans ((fm_I g5 rh0 rfl).trans mF14))), mF14, ((fm_I g92 rh0 rfl).trans ((fm_I g83 rh0 rfl).trans ((fm_I g5 rh0 rfl).trans mF15))), mF15, ((fm_I g92 rh0 rfl).trans ((fm_I g83 rh0 rfl).trans ((fm_I g5 rh0 rfl).trans mF18))), mF18, ((fm_I g92 rh0 rfl).trans ((fm_I g83 rh0 rfl).trans ((fm_I g5 rh0 rfl).trans mF21))), mF21, ((fm_I g92 rh0 rfl).trans ((fm_I g83 rh0 rfl).trans ((fm_I g5 rh0 rfl).trans mF27))), mF27, ((fm_J g92 rh0 rfl).trans ((fm_J g83 rh0 rfl).trans ((fm_J g5 rh0 rfl).trans mW))), mW, and_true, true_and, true_or, or_true, false_or, or_false] <;> omega), (by intro r hr; cases hr; have hk : (4 : Int32).toInt = 4 := rfl; rw [hk]; exact (gi_over z96 (by omega) z98 (by omega) (by rw [((fm_I g92 rh0 rfl).trans ((fm_I g83 rh0 rfl).trans ((fm_I g5 rh0 rfl).trans mF27)))]; omega)))⟩ dX12_behindTest_85
    · have q177 : pF15.toInt = 1 ∧ pW.toInt = 498 := by omega
      clear p85
      refine lv_aload_n hx hb dX12_behindTest_22 rfl (lv_at hl 1 rfl) ?_
      refine lv_iload_n hx hb dX12_behindTest_23 rfl (lv_at hl 0 rfl) ?_
      refine q_if_eq (tgt := 31) hx hb dX12_behindTest_24 (by decide) rfl (fun c178 => ?_) (fun c178 => ?_)
      · refine lv_iconst (v := 1) hx hb dX12_behindTest_31 (by decide) ?_
        have hw183 := hW.2.2.2
        refine t_callV (As := [.int 1]) (rest := []) E hW (c_X12_settle l G cI cJ cZ cD cR cT kp L f80 hW.2.2.2 _ h0 1 rh0 (by decide) (by have hkq179 : (1 : Int32).toInt = 1 := rfl; simp only [((fm_I g83 rh0 rfl).trans ((fm_I g5 rh0 rfl).trans mF21)), ((fm_I g83 rh0 rfl).trans ((fm_I g5 rh0 rfl).trans mF27)), and_true, true_and, true_or, or_true, false_or, or_false] <;> omega)) rh0 (by decide) rfl wk_X12_settle tw_1882 rfl ⟨Nat.le_of_ble_eq_true rfl, Nat.le_of_ble_eq_true rfl⟩ ⟨rfl, rfl⟩ hl.1 rfl (Nat.le_of_ble_eq_true rfl) dX12_behindTest_32 ⟨Nat.le_of_ble_eq_true rfl, Nat.le_of_ble_eq_true rfl⟩ (fun v180 f181 H locs q182 hW => ?_)
        obtain ⟨rfl, g184, h185, h186⟩ := q182
        have hF := FM.tr hF g184 rfl
        have hk187 : (1 : Int32).toInt = 1 := rfl
        obtain ⟨y188, m189⟩ : ∃ x : Int32, oI (f181 h0) 21 = x := ⟨_, rfl⟩
        have b190 : (0 : Int) ≤ y188.toInt ∧ y188.toInt ≤ 400 := by rw [← m189]; exact th_iv hW rh0 (by decide) (by decide) rfl
        obtain ⟨y191, m192⟩ : ∃ x : Int32, oI (f181 h0) 27 = x := ⟨_, rfl⟩
        have b193 : (0 : Int) ≤ y191.toInt ∧ y191.toInt ≤ 400 := by rw [← m192]; exact th_iv hW rh0 (by decide) (by decide) rfl
        simp only [m189, ((fm_I g83 rh0 rfl).trans ((fm_I g5 rh0 rfl).trans mF21)), m192, ((fm_I g83 rh0 rfl).trans ((fm_I g5 rh0 rfl).trans mF27))] at h185
        have z194 : GI f181 h0 gO gA ga (2) := gi_settle z86 hw183 rh0 g184 rfl (by omega) h186.1 h186.2.1 h186.2.2.1
        refine lv_aload_n hx hb dX12_behindTest_35 rfl (lv_at hl 1 rfl) ?_
        refine lv_iload_n hx hb dX12_behindTest_36 rfl (lv_at hl 0 rfl) ?_
        refine q_if_eq (tgt := 45) hx hb dX12_behindTest_37 (by decide) rfl (fun c195 => ?_) (fun c195 => ?_)
        · refine lv_bipush (v := 29) hx hb dX12_behindTest_45 (by decide) ?_
          refine lv_aload_n hx hb dX12_behindTest_47 rfl (lv_at hl 1 rfl) ?_
          refine fg_RX12_229 E hW rh0 dX12_behindTest_48 (fun y196 m197 b198 => ?_)
          obtain rfl : y188 = y196 := (m189).symm.trans m197
          have hw203 := hW.2.2.2
          refine t_callV (As := [.int 29, .int y188]) (rest := []) E hW (c_X12_push l G cI cJ cZ cD cR cT kp L f181 hW.2.2.2 _ h0 29 y188 rh0 (by decide) (by omega) (by have hkq199 : (29 : Int32).toInt = 29 := rfl; simp only [m192, and_true, true_and, true_or, or_true, false_or, or_false] <;> omega)) rh0 (by decide) rfl wk_X12_push tw_1828 rfl ⟨Nat.le_of_ble_eq_true rfl, Nat.le_of_ble_eq_true rfl⟩ ⟨rfl, rfl⟩ hl.1 rfl (Nat.le_of_ble_eq_true rfl) dX12_behindTest_51 ⟨Nat.le_of_ble_eq_true rfl, Nat.le_of_ble_eq_true rfl⟩ (fun v200 f201 H locs q202 hW => ?_)
          obtain ⟨rfl, g204, h205, h206⟩ := q202
          have hF := FM.tr hF g204 rfl
          have hk207 : (29 : Int32).toInt = 29 := rfl
          obtain ⟨y208, m209⟩ : ∃ x : Int32, oI (f201 h0) 27 = x := ⟨_, rfl⟩
          have b210 : (0 : Int) ≤ y208.toInt ∧ y208.toInt ≤ 400 := by rw [← m209]; exact th_iv hW rh0 (by decide) (by decide) rfl
          simp only [m209, m192] at h205
          refine lv_aload_n hx hb dX12_behindTest_54 rfl (lv_at hl 1 rfl) ?_
          refine lv_iload_n hx hb dX12_behindTest_55 rfl (lv_at hl 0 rfl) ?_
          refine q_if_eq (tgt := 64) hx hb dX12_behindTest_56 (by decide) rfl (fun c212 => ?_) (fun c212 => ?_)
          · refine lv_bipush (v := 29) hx hb dX12_behindTest_64 (by decide) ?_
            refine lv_iconst (v := 0) hx hb dX12_behindTest_66 (by decide) ?_
            have hw218 := hW.2.2.2
            refine t_callV (As := [.int 29, .int 0]) (rest := []) E hW (c_X12_emit l G cI cJ cZ cD cR cT kp L f201 hW.2.2.2 _ h0 29 0 rh0 (by have hkq213 : (29 : Int32).toInt = 29 := rfl; have hkq214 : (0 : Int32).toInt = 0 := rfl; simp only [((fm_I g204 rh0 rfl).trans m197), and_true, true_and, true_or, or_true, false_or, or_false] <;> omega)) rh0 (by decide) rfl wk_X12_emit tw_1852 rfl ⟨Nat.le_of_ble_eq_true rfl, Nat.le_of_ble_eq_true rfl⟩ ⟨rfl, rfl⟩ hl.1 rfl (Nat.le_of_ble_eq_true rfl) dX12_behindTest_67 ⟨Nat.le_of_ble_eq_true rfl, Nat.le_of_ble_eq_true rfl⟩ (fun v215 f216 H locs q217 hW => ?_)
            obtain ⟨rfl, g219, h220, h221⟩ := q217
            have hF := FM.tr hF g219 rfl
            have hk222 : (29 : Int32).toInt = 29 := rfl
            have hk223 : (0 : Int32).toInt = 0 := rfl
            obtain ⟨y224, m225⟩ : ∃ x : Int32, oI (f216 h0) 21 = x := ⟨_, rfl⟩
            have b226 : (0 : Int) ≤ y224.toInt ∧ y224.toInt ≤ 400 := by rw [← m225]; exact th_iv hW rh0 (by decide) (by decide) rfl
            simp only [m225, ((fm_I g204 rh0 rfl).trans m197)] at h220
            have z227 : GI f216 h0 gO gA ga 0 := gi_and z194 hw203 hw218 g204 g219 rh0 rfl rfl rfl rfl (by rw [m192]; omega) (by decide) m197.symm h206 h221
            refine lv_aload_n hx hb dX12_behindTest_70 rfl (lv_at hl 1 rfl) ?_
            have hw231 := hW.2.2.2
            refine t_callV (As := []) (rest := []) E hW (c_X12_next l G cI cJ cZ cD cR cT kp L f216 hW.2.2.2 _ h0 rh0 (by simp only [((fm_I g219 rh0 rfl).trans ((fm_I g204 rh0 rfl).trans ((fm_I g184 rh0 rfl).trans ((fm_I g83 rh0 rfl).trans ((fm_I g5 rh0 rfl).trans mF12))))), ((fm_I g219 rh0 rfl).trans ((fm_I g204 rh0 rfl).trans ((fm_I g184 rh0 rfl).trans ((fm_I g83 rh0 rfl).trans ((fm_I g5 rh0 rfl).trans mF14))))), and_true, true_and, true_or, or_true, false_or, or_false] <;> omega)) rh0 (by decide) rfl wk_X12_next tw_1773 rfl ⟨Nat.le_of_ble_eq_true rfl, Nat.le_of_ble_eq_true rfl⟩ ⟨rfl, rfl⟩ hl.1 rfl (Nat.le_of_ble_eq_true rfl) dX12_behindTest_71 ⟨Nat.le_of_ble_eq_true rfl, Nat.le_of_ble_eq_true rfl⟩ (fun v228 f229 H locs q230 hW => ?_)
            obtain ⟨rfl, g232, h233⟩ := q230
            have z234 : GI f229 h0 gO gA ga (0) := gi_keep z227 hw231 g232 rh0 rfl rfl (fun q => by rw [fm_I g232 rh0 rfl]; exact q)
            have hF := FM.tr hF g232 rfl
            obtain ⟨y235, m236⟩ : ∃ x : Int32, oI (f229 h0) 13 = x := ⟨_, rfl⟩
            have b237 : (0 : Int) ≤ y235.toInt ∧ y235.toInt ≤ 400 := by rw [← m236]; exact th_iv hW rh0 (by decide) (by decide) rfl
            obtain ⟨y238, m239⟩ : ∃ x : Int32, oI (f229 h0) 14 = x := ⟨_, rfl⟩
            have b240 : (0 : Int) ≤ y238.toInt ∧ y238.toInt ≤ 400 := by rw [← m239]; exact th_iv hW rh0 (by decide) (by decide) rfl
            obtain ⟨y241, m242⟩ : ∃ x : Int32, oI (f229 h0) 15 = x := ⟨_, rfl⟩
            have b243 : (0 : Int) ≤ y241.toInt ∧ y241.toInt ≤ 3 := by rw [← m242]; exact th_iv hW rh0 (by decide) (by decide) rfl
            obtain ⟨y244, m245⟩ : ∃ x : Int64, oJ (f229 h0) 16 = x := ⟨_, rfl⟩
            simp only [((fm_I g232 rh0 rfl).trans ((fm_I g219 rh0 rfl).trans ((fm_I g204 rh0 rfl).trans ((fm_I g184 rh0 rfl).trans ((fm_I g83 rh0 rfl).trans ((fm_I g5 rh0 rfl).trans mF12)))))), ((fm_I g219 rh0 rfl).trans ((fm_I g204 rh0 rfl).trans ((fm_I g184 rh0 rfl).trans ((fm_I g83 rh0 rfl).trans ((fm_I g5 rh0 rfl).trans mF12))))), m236, ((fm_I g219 rh0 rfl).trans ((fm_I g204 rh0 rfl).trans ((fm_I g184 rh0 rfl).trans ((fm_I g83 rh0 rfl).trans ((fm_I g5 rh0 rfl).trans mF13))))), m239, ((fm_I g219 rh0 rfl).trans ((fm_I g204 rh0 rfl).trans ((fm_I g184 rh0 rfl).trans ((fm_I g83 rh0 rfl).trans ((fm_I g5 rh0 rfl).trans mF14))))), m242, ((fm_I g219 rh0 rfl).trans ((fm_I g204 rh0 rfl).trans ((fm_I g184 rh0 rfl).trans ((fm_I g83 rh0 rfl).trans ((fm_I g5 rh0 rfl).trans mF15))))), m245, ((fm_J g219 rh0 rfl).trans ((fm_J g204 rh0 rfl).trans ((fm_J g184 rh0 rfl).trans ((fm_J g83 rh0 rfl).trans ((fm_J g5 rh0 rfl).trans mW)))))] at h233
            refine lv_iconst (v := 0) hx hb dX12_behindTest_74 (by decide) ?_
            exact e_I E hW rfl ⟨⟨_, rfl, (by have hk : (0 : Int32).toInt = 0 := rfl; first | decide | omega)⟩, hF, (by intro r hr; cases hr; have hkr : (0 : Int32).toInt = 0 := rfl; simp only [((fm_I g232 rh0 rfl).trans ((fm_I g219 rh0 rfl).trans ((fm_I g204 rh0 rfl).trans ((fm_I g184 rh0 rfl).trans ((fm_I g83 rh0 rfl).trans ((fm_I g5 rh0 rfl).trans mF12)))))), mF12, m236, mF13, m239, mF14, m242, mF15, ((fm_I g232 rh0 rfl).trans ((fm_I g219 rh0 rfl).trans ((fm_I g204 rh0 rfl).trans ((fm_I g184 rh0 rfl).trans ((fm_I g83 rh0 rfl).trans ((fm_I g5 rh0 rfl).trans mF18)))))), mF18, ((fm_I g232 rh0 rfl).trans m225), mF21, ((fm_I g232 rh0 rfl).trans ((fm_I g219 rh0 rfl).trans m209)), mF27, m245, mW, and_true, true_and, true_or, or_true, false_or, or_false] <;> omega), (by intro r hr; cases hr; have hk : (0 : Int32).toInt = 0 := rfl; rw [hk]; exact z234)⟩ dX12_behindTest_75
          · exfalso; omega
        · exfalso; omega
      · exfalso; omega
def ms_X12_readExpression : List (Nat × Nat) := [(12, 13), (12, 14), (12, 15), (12, 16), (12, 17), (12, 18), (12, 21), (12, 24), (12, 27), (12, 28), (842, 0), (843, 0), (845, 0), (846, 0)]
def po_X12_readExpression (kp : Nat → Nat) (L : List Nat) (f0 : Nat → va_E) (h0 : Nat) (u1 : Int32) : Option Value → (Nat → va_E) → Prop := fun v f => v = none ∧ FM kp L ms_X12_readExpression f0 f ∧ ((oI (f h0) 21).toInt + (oI (f h0) 27).toInt ≤ (oI (f h0) 13).toInt ∧ (oI (f h0) 13).toInt ≤ (oI (f h0) 14).toInt ∧ (oI (f h0) 14).toInt ≤ (oI (f0 h0) 12).toInt ∧ ((oI (f h0) 15).toInt = 0 ∨ (oI (f h0) 13).toInt < (oI (f h0) 14).toInt) ∧ (¬ (oI (f h0) 15).toInt = 1 ∨ (oJ (f h0) 16).toInt ≤ 26 ∨ (oI (f h0) 13).toInt + 2 ≤ (oI (f h0) 14).toInt) ∧ (oI (f0 h0) 21).toInt ≤ (oI (f h0) 21).toInt ∧ (oI (f0 h0) 13).toInt ≤ (oI (f h0) 13).toInt ∧ (¬ (oI (f0 h0) 18).toInt = 1 ∨ (oI (f h0) 18).toInt = 1)) ∧ ((oI (f h0) 18).toInt = 1 ∨ (SegN (vO f h0) (vA f h0) (oI (f0 h0) 21).toInt (oI (f h0) 21).toInt ∧ FRc (vO f h0) (vA f h0) (vO f0 h0) (vA f0 h0) (oI (f0 h0) 21).toInt))
set_option maxHeartbeats 4000000 in
set_option maxRecDepth 100000 in
theorem c_X12_readExpression (l : Launch) (G : va_G) (cI cJ cZ cD cR cT : ClassId) (kp : Nat → Nat) (L : List Nat) (f0 : Nat → va_E) (hTH : TH cI cJ cZ cD cR cT kp L f0) (sz : Nat) (h0 : Nat) (u1 : Int32) (rh0 : RK kp L h0 12) (pu1 : (0 : Int) ≤ u1.toInt ∧ u1.toInt ≤ 1) (hq : (oI (f0 h0) 21).toInt ≤ (oI (f0 h0) 13).toInt ∧ (oI (f0 h0) 13).toInt ≤ (oI (f0 h0) 14).toInt ∧ (oI (f0 h0) 14).toInt ≤ (oI (f0 h0) 12).toInt ∧ ((oI (f0 h0) 15).toInt = 0 ∨ (oI (f0 h0) 13).toInt < (oI (f0 h0) 14).toInt) ∧ (¬ (oI (f0 h0) 15).toInt = 1 ∨ (oJ (f0 h0) 16).toInt ≤ 26 ∨ (oI (f0 h0) 13).toInt + 2 ≤ (oI (f0 h0) 14).toInt) ∧ (oI (f0 h0) 18).toInt = 0) : Met l yX12_readExpression (Cond.code yX12_readExpression cX12_readExpression 3 none :: wTab) ({ frames := 7, cells := 0, slots := 0, locals := 167 }) (va_Pc [.ref h0, .int u1] (PreW G (tys6 cI cJ cZ cD cR cT) (va_pl L f0) sz)) (QT (po_X12_readExpression kp L f0 h0 u1) G cI cJ cZ cD cR cT (va_A (va_pl L f0) sz) kp L) 0 0 (va_A (va_pl L f0) sz) := by
  refine metT (by decide) (Nat.le_of_ble_eq_true rfl) hTH ?_
  intro p e s m below meth c A ls E hW hl
  obtain ⟨hx, hb, -, hml, hown, hts, -, -, -⟩ := id E
  have hF : FM kp L ms_X12_readExpression f0 f0 := FM.rf
  have hl : lv_has ls 3 [(0, .ref h0), (1, .int u1)] := hl
  obtain ⟨pF12, mF12⟩ : ∃ x : Int32, oI (f0 h0) 12 = x := ⟨_, rfl⟩
  have bF12 : (0 : Int) ≤ pF12.toInt ∧ pF12.toInt ≤ 400 := by rw [← mF12]; exact th_iv hW rh0 (by decide) (by decide) rfl
  obtain ⟨pF13, mF13⟩ : ∃ x : Int32, oI (f0 h0) 13 = x := ⟨_, rfl⟩
  have bF13 : (0 : Int) ≤ pF13.toInt ∧ pF13.toInt ≤ 400 := by rw [← mF13]; exact th_iv hW rh0 (by decide) (by decide) rfl
  obtain ⟨pF14, mF14⟩ : ∃ x : Int32, oI (f0 h0) 14 = x := ⟨_, rfl⟩
  have bF14 : (0 : Int) ≤ pF14.toInt ∧ pF14.toInt ≤ 400 := by rw [← mF14]; exact th_iv hW rh0 (by decide) (by decide) rfl
  obtain ⟨pF15, mF15⟩ : ∃ x : Int32, oI (f0 h0) 15 = x := ⟨_, rfl⟩
  have bF15 : (0 : Int) ≤ pF15.toInt ∧ pF15.toInt ≤ 3 := by rw [← mF15]; exact th_iv hW rh0 (by decide) (by decide) rfl
  obtain ⟨pF18, mF18⟩ : ∃ x : Int32, oI (f0 h0) 18 = x := ⟨_, rfl⟩
  have bF18 : (0 : Int) ≤ pF18.toInt ∧ pF18.toInt ≤ 1 := by rw [← mF18]; exact th_iv hW rh0 (by decide) (by decide) rfl
  obtain ⟨pF21, mF21⟩ : ∃ x : Int32, oI (f0 h0) 21 = x := ⟨_, rfl⟩
  have bF21 : (0 : Int) ≤ pF21.toInt ∧ pF21.toInt ≤ 400 := by rw [← mF21]; exact th_iv hW rh0 (by decide) (by decide) rfl
  obtain ⟨pF24, mF24⟩ : ∃ x : Int32, oI (f0 h0) 24 = x := ⟨_, rfl⟩
  have bF24 : (0 : Int) ≤ pF24.toInt ∧ pF24.toInt ≤ 50 := by rw [← mF24]; exact th_iv hW rh0 (by decide) (by decide) rfl
  obtain ⟨pF27, mF27⟩ : ∃ x : Int32, oI (f0 h0) 27 = x := ⟨_, rfl⟩
  have bF27 : (0 : Int) ≤ pF27.toInt ∧ pF27.toInt ≤ 400 := by rw [← mF27]; exact th_iv hW rh0 (by decide) (by decide) rfl
  obtain ⟨pW, mW⟩ : ∃ x : Int64, oJ (f0 h0) 16 = x := ⟨_, rfl⟩
  simp only [mF12, mF13, mF14, mF15, mF18, mF21, mF24, mF27, mW] at hq
  obtain ⟨pR, mR⟩ : ∃ x : Nat, oR (f0 h0) 2 = x := ⟨_, rfl⟩
  have rR : RK kp L pR 822 := by rw [← mR]; exact th_ref hTH rh0 (by decide) (by decide) rfl
  obtain ⟨gO, egO⟩ : ∃ x, x = vO f0 h0 := ⟨_, rfl⟩
  obtain ⟨gA, egA⟩ : ∃ x, x = vA f0 h0 := ⟨_, rfl⟩
  obtain ⟨ga, ega⟩ : ∃ x : Int, x = pF21.toInt := ⟨_, rfl⟩
  refine lv_aload_n hx hb dX12_readExpression_0 rfl (lv_at hl 0 rfl) ?_
  refine lv_iconst (v := 0) hx hb dX12_readExpression_1 (by decide) ?_
  have hw5 := hW.2.2.2
  refine fp_RX12_232 E hW rh0 (by decide) dX12_readExpression_2 (fun f1 H locs e2 n3 g4 hW => ?_)
  have z6 : vO f1 h0 = gO ∧ vA f1 h0 = gA ∧ oI (f1 h0) 21 = pF21 := by obtain ⟨e1, e2, e3⟩ := c_keep hw5 g4 rh0 rfl; rw [e1, e2, e3]; exact ⟨egO.symm, egA.symm, mF21⟩
  have hF := FM.tr hF g4 rfl
  refine lv_aload_n hx hb dX12_readExpression_5 rfl (lv_at hl 0 rfl) ?_
  refine lv_iconst (v := 0) hx hb dX12_readExpression_6 (by decide) ?_
  have hw11 := hW.2.2.2
  refine fp_RX12_284 E hW rh0 dX12_readExpression_7 (fun f7 H locs e8 n9 g10 hW => ?_)
  have z12 : vO f7 h0 = gO ∧ vA f7 h0 = gA ∧ oI (f7 h0) 21 = pF21 := by obtain ⟨e1, e2, e3⟩ := c_keep hw11 g10 rh0 rfl; rw [e1, e2, e3]; exact z6
  have hF := FM.tr hF g10 rfl
  refine lv_iload_n hx hb dX12_readExpression_10 rfl (lv_at hl 1 rfl) ?_
  have J15 : ∀ (y13 : Int32) (b14 : (0 : Int) ≤ y13.toInt ∧ y13.toInt ≤ 1) (H : Heap) (locs : List Loc) (ls : Array Slot), WS G cI cJ cZ cD cR cT A kp L f7 s H locs → FM kp L ms_X12_readExpression f0 f7 → lv_has ls 3 [(0, .ref h0), (1, .int u1)] → W p l e ({ frames := 7, cells := 0, slots := 0, locals := 167 }) s m ([.ref h0, .int u1] : List Value).toArray below meth c H locs 0 0 (MQ below (QT (po_X12_readExpression kp L f0 h0 u1) G cI cJ cZ cD cR cT A kp L) ([.ref h0, .int u1] : List Value).toArray s 0 0 A) (F0 m 19 ls [.int y13]) := by
    intro y13 b14 H locs ls hW hF hl
    refine lv_istore_n (lv' := [(2, .int y13), (0, .ref h0), (1, .int u1)]) hx hb dX12_readExpression_19 rfl hl (by decide) rfl (fun ls hl => ?_)
    have L453 : ∀ (n : Nat), ∀ (f422 : Nat → va_E) (y425 : Int32) (y427 : Int32) (y430 : Int32) (y433 : Int32) (y436 : Int64) (y439 : Int32) (y442 : Int32) (y445 : Int32) (y448 : Int32) (m423 : oR (f422 h0) 2 = pR) (m424 : oI (f422 h0) 12 = pF12) (b426 : (0 : Int) ≤ y425.toInt ∧ y425.toInt ≤ 4) (m428 : oI (f422 h0) 13 = y427) (b429 : (0 : Int) ≤ y427.toInt ∧ y427.toInt ≤ 400) (m431 : oI (f422 h0) 14 = y430) (b432 : (0 : Int) ≤ y430.toInt ∧ y430.toInt ≤ 400) (m434 : oI (f422 h0) 15 = y433) (b435 : (0 : Int) ≤ y433.toInt ∧ y433.toInt ≤ 3) (m437 : oJ (f422 h0) 16 = y436) (b438 : True) (m440 : oI (f422 h0) 18 = y439) (b441 : (0 : Int) ≤ y439.toInt ∧ y439.toInt ≤ 1) (m443 : oI (f422 h0) 21 = y442) (b444 : (0 : Int) ≤ y442.toInt ∧ y442.toInt ≤ 400) (m446 : oI (f422 h0) 24 = y445) (b447 : (0 : Int) ≤ y445.toInt ∧ y445.toInt ≤ 50) (m449 : oI (f422 h0) 27 = y448) (b450 : (0 : Int) ≤ y448.toInt ∧ y448.toInt ≤ 400) (v451 : y442.toInt + y448.toInt ≤ y427.toInt ∧ y427.toInt ≤ y430.toInt ∧ y430.toInt ≤ pF12.toInt ∧ (y433.toInt = 0 ∨ y427.toInt < y430.toInt) ∧ (¬ y433.toInt = 1 ∨ y436.toInt ≤ 26 ∨ y427.toInt + 2 ≤ y430.toInt) ∧ pF13.toInt ≤ y427.toInt ∧ pF21.toInt ≤ y442.toInt ∧ 0 ≤ y425.toInt ∧ y425.toInt ≤ 4) (v452 : GI f422 h0 gO gA ga y425.toInt) (hm : (1 : Int) ≤ n ∧ (y439.toInt = 1 ∨ y425.toInt = 4 ∨ (y425.toInt = 3 ∧ 2 * (401 - y427.toInt) + 2 ≤ n) ∨ (¬ y425.toInt = 3 ∧ 2 * (401 - y427.toInt) + 1 ≤ n))) (H : Heap) (locs : List Loc) (ls : Array Slot), WS G cI cJ cZ cD cR cT A kp L f422 s H locs → FM kp L ms_X12_readExpression f0 f422 → lv_has ls 3 [(2, .int y425), (0, .ref h0), (1, .int u1)] → W p l e ({ frames := 7, cells := 0, slots := 0, locals := 167 }) s m ([.ref h0, .int u1] : List Value).toArray below meth c H locs 0 0 (MQ below (QT (po_X12_readExpression kp L f0 h0 u1) G cI cJ cZ cD cR cT A kp L) ([.ref h0, .int u1] : List Value).toArray s 0 0 A) (F0 m 20 ls []) := by
      intro n
      induction n with
      | zero =>
        intro f422 y425 y427 y430 y433 y436 y439 y442 y445 y448 m423 m424 b426 m428 b429 m431 b432 m434 b435 m437 b438 m440 b441 m443 b444 m446 b447 m449 b450 v451 v452 hm H locs ls hW hF hl
        exfalso; omega
      | succ n ih =>
        intro f422 y425 y427 y430 y433 y436 y439 y442 y445 y448 m423 m424 b426 m428 b429 m431 b432 m434 b435 m437 b438 m440 b441 m443 b444 m446 b447 m449 b450 v451 v452 hm H locs ls hW hF hl
        clear b14 b438
        have ih20 := ih
        refine lv_aload_n hx hb dX12_readExpression_20 rfl (lv_at hl 1 rfl) ?_
        refine fg_RX12_193 E hW rh0 dX12_readExpression_21 (fun y454 m455 b456 => ?_)
        obtain rfl : y439 = y454 := (m440).symm.trans m455
        refine q_if_ne (tgt := 76) hx hb dX12_readExpression_24 (by decide) rfl (fun c457 => ?_) (fun c457 => ?_)
        · refine lv_aload_n hx hb dX12_readExpression_76 rfl (lv_at hl 1 rfl) ?_
          refine lv_iconst (v := 1) hx hb dX12_readExpression_77 (by decide) ?_
          have hw462 := hW.2.2.2
          refine t_callV (As := [.int 1]) (rest := []) E hW (c_X12_settle l G cI cJ cZ cD cR cT kp L f422 hW.2.2.2 _ h0 1 rh0 (by decide) (by have hkq458 : (1 : Int32).toInt = 1 := rfl; simp only [m443, m449, and_true, true_and, true_or, or_true, false_or, or_false] <;> omega)) rh0 (by decide) rfl wk_X12_settle tw_1882 rfl ⟨Nat.le_of_ble_eq_true rfl, Nat.le_of_ble_eq_true rfl⟩ ⟨rfl, rfl⟩ hl.1 rfl (Nat.le_of_ble_eq_true rfl) dX12_readExpression_78 ⟨Nat.le_of_ble_eq_true rfl, Nat.le_of_ble_eq_true rfl⟩ (fun v459 f460 H locs q461 hW => ?_)
          obtain ⟨rfl, g463, h464, h465⟩ := q461
          have hF := FM.tr hF g463 rfl
          have hk466 : (1 : Int32).toInt = 1 := rfl
          obtain ⟨y467, m468⟩ : ∃ x : Int32, oI (f460 h0) 21 = x := ⟨_, rfl⟩
          have b469 : (0 : Int) ≤ y467.toInt ∧ y467.toInt ≤ 400 := by rw [← m468]; exact th_iv hW rh0 (by decide) (by decide) rfl
          obtain ⟨y470, m471⟩ : ∃ x : Int32, oI (f460 h0) 27 = x := ⟨_, rfl⟩
          have b472 : (0 : Int) ≤ y470.toInt ∧ y470.toInt ≤ 400 := by rw [← m471]; exact th_iv hW rh0 (by decide) (by decide) rfl
          simp only [m468, m443, m471, m449] at h464
          exact e_V E hW rfl ⟨rfl, hF, (by simp only [((fm_I g463 rh0 rfl).trans m424), mF12, ((fm_I g463 rh0 rfl).trans m428), mF13, ((fm_I g463 rh0 rfl).trans m431), mF14, ((fm_I g463 rh0 rfl).trans m434), mF15, ((fm_I g463 rh0 rfl).trans m455), mF18, m468, mF21, m471, mF27, ((fm_J g463 rh0 rfl).trans m437), mW, and_true, true_and, true_or, or_true, false_or, or_false] <;> omega), (Or.inl (by rw [((fm_I g463 rh0 rfl).trans m455)]; omega))⟩ dX12_readExpression_81
        · refine lv_iload_n hx hb dX12_readExpression_27 rfl (lv_at hl 0 rfl) ?_
          refine lv_iconst (v := 4) hx hb dX12_readExpression_28 (by decide) ?_
          refine q_icmp_eq (Y := 4) (tgt := 76) hx hb dX12_readExpression_29 (by decide) rfl rfl (fun c473 => ?_) (fun c473 => ?_)
          · refine lv_aload_n hx hb dX12_readExpression_76 rfl (lv_at hl 1 rfl) ?_
            refine lv_iconst (v := 1) hx hb dX12_readExpression_77 (by decide) ?_
            have hw478 := hW.2.2.2
            refine t_callV (As := [.int 1]) (rest := []) E hW (c_X12_settle l G cI cJ cZ cD cR cT kp L f422 hW.2.2.2 _ h0 1 rh0 (by decide) (by have hkq474 : (1 : Int32).toInt = 1 := rfl; simp only [m443, m449, and_true, true_and, true_or, or_true, false_or, or_false] <;> omega)) rh0 (by decide) rfl wk_X12_settle tw_1882 rfl ⟨Nat.le_of_ble_eq_true rfl, Nat.le_of_ble_eq_true rfl⟩ ⟨rfl, rfl⟩ hl.1 rfl (Nat.le_of_ble_eq_true rfl) dX12_readExpression_78 ⟨Nat.le_of_ble_eq_true rfl, Nat.le_of_ble_eq_true rfl⟩ (fun v475 f476 H locs q477 hW => ?_)
            obtain ⟨rfl, g479, h480, h481⟩ := q477
            have hF := FM.tr hF g479 rfl
            have hk482 : (1 : Int32).toInt = 1 := rfl
            obtain ⟨y483, m484⟩ : ∃ x : Int32, oI (f476 h0) 21 = x := ⟨_, rfl⟩
            have b485 : (0 : Int) ≤ y483.toInt ∧ y483.toInt ≤ 400 := by rw [← m484]; exact th_iv hW rh0 (by decide) (by decide) rfl
            obtain ⟨y486, m487⟩ : ∃ x : Int32, oI (f476 h0) 27 = x := ⟨_, rfl⟩
            have b488 : (0 : Int) ≤ y486.toInt ∧ y486.toInt ≤ 400 := by rw [← m487]; exact th_iv hW rh0 (by decide) (by decide) rfl
            simp only [m484, m443, m487, m449] at h480
            exact e_V E hW rfl ⟨rfl, hF, (by simp only [((fm_I g479 rh0 rfl).trans m424), mF12, ((fm_I g479 rh0 rfl).trans m428), mF13, ((fm_I g479 rh0 rfl).trans m431), mF14, ((fm_I g479 rh0 rfl).trans m434), mF15, ((fm_I g479 rh0 rfl).trans m455), mF18, m484, mF21, m487, mF27, ((fm_J g479 rh0 rfl).trans m437), mW, and_true, true_and, true_or, or_true, false_or, or_false] <;> omega), (Or.inr (by obtain ⟨w1, w2, -⟩ := gi_end (f2 := f0) (show GI f422 h0 gO gA ga 4 from (by have e : (4 : Int) = y425.toInt := (by omega); rw [e]; exact v452)) (by rw [m455]; omega) h481.1 h481.2.2.1.1 h481.2.2.1.2 (by have hk : (1 : Int32).toInt = 1 := rfl; have q := h481.2.2.2.1; rw [hk] at q; exact q); rw [mF21, ← ega, ← egO, ← egA]; exact ⟨w1, w2⟩))⟩ dX12_readExpression_81
          · refine lv_iload_n hx hb dX12_readExpression_32 rfl (lv_at hl 0 rfl) ?_
            refine q_if_ne (tgt := 43) hx hb dX12_readExpression_33 (by decide) rfl (fun c489 => ?_) (fun c489 => ?_)
            · refine lv_iload_n hx hb dX12_readExpression_43 rfl (lv_at hl 0 rfl) ?_
              refine lv_iconst (v := 1) hx hb dX12_readExpression_44 (by decide) ?_
              refine q_icmp_ne (Y := 1) (tgt := 55) hx hb dX12_readExpression_45 (by decide) rfl rfl (fun c490 => ?_) (fun c490 => ?_)
              · refine lv_iload_n hx hb dX12_readExpression_55 rfl (lv_at hl 0 rfl) ?_
                refine lv_iconst (v := 3) hx hb dX12_readExpression_56 (by decide) ?_
                refine q_icmp_ne (Y := 3) (tgt := 68) hx hb dX12_readExpression_57 (by decide) rfl rfl (fun c491 => ?_) (fun c491 => ?_)
                · refine lv_aload_n hx hb dX12_readExpression_68 rfl (lv_at hl 1 rfl) ?_
                  have hw495 := hW.2.2.2
                  refine t_callV (As := []) (rest := []) E hW (c_X12_behindTest l G cI cJ cZ cD cR cT kp L f422 hW.2.2.2 _ gO gA ga h0 rh0 (by simp only [m424, m428, m431, m434, m443, m449, m437, and_true, true_and, true_or, or_true, false_or, or_false] <;> omega) (by have e : (2 : Int) = y425.toInt := (by omega); rw [e]; exact v452)) rh0 (by decide) rfl wk_X12_behindTest tw_1898 rfl ⟨Nat.le_of_ble_eq_true rfl, Nat.le_of_ble_eq_true rfl⟩ ⟨rfl, rfl⟩ hl.1 rfl (Nat.le_of_ble_eq_true rfl) dX12_readExpression_69 ⟨Nat.le_of_ble_eq_true rfl, Nat.le_of_ble_eq_true rfl⟩ (fun v492 f493 H locs q494 hW => ?_)
                  obtain ⟨⟨x499, rfl, p500⟩, g496, h497, h498⟩ := q494
                  have hF := FM.tr hF g496 rfl
                  have h497 := h497 _ rfl
                  obtain ⟨y501, m502⟩ : ∃ x : Int32, oI (f493 h0) 13 = x := ⟨_, rfl⟩
                  have b503 : (0 : Int) ≤ y501.toInt ∧ y501.toInt ≤ 400 := by rw [← m502]; exact th_iv hW rh0 (by decide) (by decide) rfl
                  obtain ⟨y504, m505⟩ : ∃ x : Int32, oI (f493 h0) 14 = x := ⟨_, rfl⟩
                  have b506 : (0 : Int) ≤ y504.toInt ∧ y504.toInt ≤ 400 := by rw [← m505]; exact th_iv hW rh0 (by decide) (by decide) rfl
                  obtain ⟨y507, m508⟩ : ∃ x : Int32, oI (f493 h0) 15 = x := ⟨_, rfl⟩
                  have b509 : (0 : Int) ≤ y507.toInt ∧ y507.toInt ≤ 3 := by rw [← m508]; exact th_iv hW rh0 (by decide) (by decide) rfl
                  obtain ⟨y510, m511⟩ : ∃ x : Int32, oI (f493 h0) 18 = x := ⟨_, rfl⟩
                  have b512 : (0 : Int) ≤ y510.toInt ∧ y510.toInt ≤ 1 := by rw [← m511]; exact th_iv hW rh0 (by decide) (by decide) rfl
                  obtain ⟨y513, m514⟩ : ∃ x : Int32, oI (f493 h0) 21 = x := ⟨_, rfl⟩
                  have b515 : (0 : Int) ≤ y513.toInt ∧ y513.toInt ≤ 400 := by rw [← m514]; exact th_iv hW rh0 (by decide) (by decide) rfl
                  obtain ⟨y516, m517⟩ : ∃ x : Int32, oI (f493 h0) 27 = x := ⟨_, rfl⟩
                  have b518 : (0 : Int) ≤ y516.toInt ∧ y516.toInt ≤ 400 := by rw [← m517]; exact th_iv hW rh0 (by decide) (by decide) rfl
                  obtain ⟨y519, m520⟩ : ∃ x : Int64, oJ (f493 h0) 16 = x := ⟨_, rfl⟩
                  simp only [((fm_I g496 rh0 rfl).trans m424), m424, m502, m428, m505, m431, m508, m434, m511, m455, m514, m443, m517, m449, m520, m437] at h497
                  have h498 := h498 _ rfl
                  refine lv_istore_n (lv' := [(2, .int x499), (0, .ref h0), (1, .int u1)]) hx hb dX12_readExpression_72 rfl hl (by decide) rfl (fun ls hl => ?_)
                  refine lv_goto (tgt := 20) hx hb dX12_readExpression_73 (by decide) ?_
                  exact ih20 f493 x499 y501 y504 y507 y519 y510 y513 y445 y516 ((fm_R g496 rh0 rfl).trans m423) ((fm_I g496 rh0 rfl).trans m424) (by omega) m502 (by first | omega | decide | trivial) m505 (by first | omega | decide | trivial) m508 (by first | omega | decide | trivial) m520 (by first | omega | decide | trivial) m511 (by first | omega | decide | trivial) m514 (by first | omega | decide | trivial) ((fm_I g496 rh0 rfl).trans m446) (by first | omega | decide | trivial) m517 (by first | omega | decide | trivial) (by omega) h498 (by omega) _ _ _ hW hF (lv_sub hl [0, 1, 2] rfl)
                · refine lv_aload_n hx hb dX12_readExpression_60 rfl (lv_at hl 1 rfl) ?_
                  refine lv_iload_n hx hb dX12_readExpression_61 rfl (lv_at hl 2 rfl) ?_
                  have hw524 := hW.2.2.2
                  refine t_callV (As := [.int u1]) (rest := []) E hW (c_X12_behindSum l G cI cJ cZ cD cR cT kp L f422 hW.2.2.2 _ gO gA ga h0 u1 rh0 (by omega) (by simp only [m424, m428, m431, m434, m443, m449, m437, and_true, true_and, true_or, or_true, false_or, or_false] <;> omega) (by have e : (3 : Int) = y425.toInt := (by omega); rw [e]; exact v452)) rh0 (by decide) rfl wk_X12_behindSum tw_1875 rfl ⟨Nat.le_of_ble_eq_true rfl, Nat.le_of_ble_eq_true rfl⟩ ⟨rfl, rfl⟩ hl.1 rfl (Nat.le_of_ble_eq_true rfl) dX12_readExpression_62 ⟨Nat.le_of_ble_eq_true rfl, Nat.le_of_ble_eq_true rfl⟩ (fun v521 f522 H locs q523 hW => ?_)
                  obtain ⟨⟨x528, rfl, p529⟩, g525, h526, h527⟩ := q523
                  have hF := FM.tr hF g525 rfl
                  have h526 := h526 _ rfl
                  obtain ⟨y530, m531⟩ : ∃ x : Int32, oI (f522 h0) 13 = x := ⟨_, rfl⟩
                  have b532 : (0 : Int) ≤ y530.toInt ∧ y530.toInt ≤ 400 := by rw [← m531]; exact th_iv hW rh0 (by decide) (by decide) rfl
                  obtain ⟨y533, m534⟩ : ∃ x : Int32, oI (f522 h0) 14 = x := ⟨_, rfl⟩
                  have b535 : (0 : Int) ≤ y533.toInt ∧ y533.toInt ≤ 400 := by rw [← m534]; exact th_iv hW rh0 (by decide) (by decide) rfl
                  obtain ⟨y536, m537⟩ : ∃ x : Int32, oI (f522 h0) 15 = x := ⟨_, rfl⟩
                  have b538 : (0 : Int) ≤ y536.toInt ∧ y536.toInt ≤ 3 := by rw [← m537]; exact th_iv hW rh0 (by decide) (by decide) rfl
                  obtain ⟨y539, m540⟩ : ∃ x : Int32, oI (f522 h0) 18 = x := ⟨_, rfl⟩
                  have b541 : (0 : Int) ≤ y539.toInt ∧ y539.toInt ≤ 1 := by rw [← m540]; exact th_iv hW rh0 (by decide) (by decide) rfl
                  obtain ⟨y542, m543⟩ : ∃ x : Int32, oI (f522 h0) 21 = x := ⟨_, rfl⟩
                  have b544 : (0 : Int) ≤ y542.toInt ∧ y542.toInt ≤ 400 := by rw [← m543]; exact th_iv hW rh0 (by decide) (by decide) rfl
                  obtain ⟨y545, m546⟩ : ∃ x : Int32, oI (f522 h0) 27 = x := ⟨_, rfl⟩
                  have b547 : (0 : Int) ≤ y545.toInt ∧ y545.toInt ≤ 400 := by rw [← m546]; exact th_iv hW rh0 (by decide) (by decide) rfl
                  obtain ⟨y548, m549⟩ : ∃ x : Int64, oJ (f522 h0) 16 = x := ⟨_, rfl⟩
                  simp only [((fm_I g525 rh0 rfl).trans m424), m424, m531, m428, m534, m431, m537, m434, m540, m455, m543, m443, m546, m449, m549, m437] at h526
                  have h527 := h527 _ rfl
                  refine lv_goto (tgt := 72) hx hb dX12_readExpression_65 (by decide) ?_
                  refine lv_istore_n (lv' := [(2, .int x528), (0, .ref h0), (1, .int u1)]) hx hb dX12_readExpression_72 rfl hl (by decide) rfl (fun ls hl => ?_)
                  refine lv_goto (tgt := 20) hx hb dX12_readExpression_73 (by decide) ?_
                  exact ih20 f522 x528 y530 y533 y536 y548 y539 y542 y445 y545 ((fm_R g525 rh0 rfl).trans m423) ((fm_I g525 rh0 rfl).trans m424) (by omega) m531 (by first | omega | decide | trivial) m534 (by first | omega | decide | trivial) m537 (by first | omega | decide | trivial) m549 (by first | omega | decide | trivial) m540 (by first | omega | decide | trivial) m543 (by first | omega | decide | trivial) ((fm_I g525 rh0 rfl).trans m446) (by first | omega | decide | trivial) m546 (by first | omega | decide | trivial) (by omega) h527 (by omega) _ _ _ hW hF (lv_sub hl [0, 1, 2] rfl)
              · refine lv_aload_n hx hb dX12_readExpression_48 rfl (lv_at hl 1 rfl) ?_
                have hw553 := hW.2.2.2
                refine t_callV (As := []) (rest := []) E hW (c_X12_readPart l G cI cJ cZ cD cR cT kp L f422 hW.2.2.2 _ gO gA ga 1 h0 rh0 (by simp only [m424, m428, m431, m434, m443, m449, m437, and_true, true_and, true_or, or_true, false_or, or_false] <;> omega) (by have e : (1 : Int) = y425.toInt := (by omega); rw [e]; exact v452)) rh0 (by decide) rfl wk_X12_readPart tw_1856 rfl ⟨Nat.le_of_ble_eq_true rfl, Nat.le_of_ble_eq_true rfl⟩ ⟨rfl, rfl⟩ hl.1 rfl (Nat.le_of_ble_eq_true rfl) dX12_readExpression_49 ⟨Nat.le_of_ble_eq_true rfl, Nat.le_of_ble_eq_true rfl⟩ (fun v550 f551 H locs q552 hW => ?_)
                obtain ⟨⟨x557, rfl, p558⟩, g554, h555, h556⟩ := q552
                have hF := FM.tr hF g554 rfl
                have h555 := h555 _ rfl
                obtain ⟨y559, m560⟩ : ∃ x : Int32, oI (f551 h0) 13 = x := ⟨_, rfl⟩
                have b561 : (0 : Int) ≤ y559.toInt ∧ y559.toInt ≤ 400 := by rw [← m560]; exact th_iv hW rh0 (by decide) (by decide) rfl
                obtain ⟨y562, m563⟩ : ∃ x : Int32, oI (f551 h0) 14 = x := ⟨_, rfl⟩
                have b564 : (0 : Int) ≤ y562.toInt ∧ y562.toInt ≤ 400 := by rw [← m563]; exact th_iv hW rh0 (by decide) (by decide) rfl
                obtain ⟨y565, m566⟩ : ∃ x : Int32, oI (f551 h0) 15 = x := ⟨_, rfl⟩
                have b567 : (0 : Int) ≤ y565.toInt ∧ y565.toInt ≤ 3 := by rw [← m566]; exact th_iv hW rh0 (by decide) (by decide) rfl
                obtain ⟨y568, m569⟩ : ∃ x : Int32, oI (f551 h0) 18 = x := ⟨_, rfl⟩
                have b570 : (0 : Int) ≤ y568.toInt ∧ y568.toInt ≤ 1 := by rw [← m569]; exact th_iv hW rh0 (by decide) (by decide) rfl
                obtain ⟨y571, m572⟩ : ∃ x : Int32, oI (f551 h0) 21 = x := ⟨_, rfl⟩
                have b573 : (0 : Int) ≤ y571.toInt ∧ y571.toInt ≤ 400 := by rw [← m572]; exact th_iv hW rh0 (by decide) (by decide) rfl
                obtain ⟨y574, m575⟩ : ∃ x : Int32, oI (f551 h0) 27 = x := ⟨_, rfl⟩
                have b576 : (0 : Int) ≤ y574.toInt ∧ y574.toInt ≤ 400 := by rw [← m575]; exact th_iv hW rh0 (by decide) (by decide) rfl
                obtain ⟨y577, m578⟩ : ∃ x : Int64, oJ (f551 h0) 16 = x := ⟨_, rfl⟩
                simp only [((fm_I g554 rh0 rfl).trans m424), m424, m560, m428, m563, m431, m566, m434, m569, m455, m572, m443, m575, m449, m578, m437] at h555
                have h556 := h556 _ rfl
                refine lv_goto (tgt := 72) hx hb dX12_readExpression_52 (by decide) ?_
                refine lv_istore_n (lv' := [(2, .int x557), (0, .ref h0), (1, .int u1)]) hx hb dX12_readExpression_72 rfl hl (by decide) rfl (fun ls hl => ?_)
                refine lv_goto (tgt := 20) hx hb dX12_readExpression_73 (by decide) ?_
                exact ih20 f551 x557 y559 y562 y565 y577 y568 y571 (oI (f551 h0) 24) y574 ((fm_R g554 rh0 rfl).trans m423) ((fm_I g554 rh0 rfl).trans m424) (by omega) m560 (by first | omega | decide | trivial) m563 (by first | omega | decide | trivial) m566 (by first | omega | decide | trivial) m578 (by first | omega | decide | trivial) m569 (by first | omega | decide | trivial) m572 (by first | omega | decide | trivial) rfl (th_iv hW rh0 (by decide) (by decide) rfl) m575 (by first | omega | decide | trivial) (by omega) h556 (by omega) _ _ _ hW hF (lv_sub hl [0, 1, 2] rfl)
            · refine lv_aload_n hx hb dX12_readExpression_36 rfl (lv_at hl 1 rfl) ?_
              have hw582 := hW.2.2.2
              refine t_callV (As := []) (rest := []) E hW (c_X12_readPlain l G cI cJ cZ cD cR cT kp L f422 hW.2.2.2 _ gO gA ga h0 rh0 (by simp only [m424, m428, m431, m434, m443, m449, m437, and_true, true_and, true_or, or_true, false_or, or_false] <;> omega) (by have e : (0 : Int) = y425.toInt := (by omega); rw [e]; exact v452)) rh0 (by decide) rfl wk_X12_readPlain tw_1823 rfl ⟨Nat.le_of_ble_eq_true rfl, Nat.le_of_ble_eq_true rfl⟩ ⟨rfl, rfl⟩ hl.1 rfl (Nat.le_of_ble_eq_true rfl) dX12_readExpression_37 ⟨Nat.le_of_ble_eq_true rfl, Nat.le_of_ble_eq_true rfl⟩ (fun v579 f580 H locs q581 hW => ?_)
              obtain ⟨⟨x586, rfl, p587⟩, g583, h584, h585⟩ := q581
              have hF := FM.tr hF g583 rfl
              have h584 := h584 _ rfl
              obtain ⟨y588, m589⟩ : ∃ x : Int32, oI (f580 h0) 13 = x := ⟨_, rfl⟩
              have b590 : (0 : Int) ≤ y588.toInt ∧ y588.toInt ≤ 400 := by rw [← m589]; exact th_iv hW rh0 (by decide) (by decide) rfl
              obtain ⟨y591, m592⟩ : ∃ x : Int32, oI (f580 h0) 14 = x := ⟨_, rfl⟩
              have b593 : (0 : Int) ≤ y591.toInt ∧ y591.toInt ≤ 400 := by rw [← m592]; exact th_iv hW rh0 (by decide) (by decide) rfl
              obtain ⟨y594, m595⟩ : ∃ x : Int32, oI (f580 h0) 15 = x := ⟨_, rfl⟩
              have b596 : (0 : Int) ≤ y594.toInt ∧ y594.toInt ≤ 3 := by rw [← m595]; exact th_iv hW rh0 (by decide) (by decide) rfl
              obtain ⟨y597, m598⟩ : ∃ x : Int32, oI (f580 h0) 18 = x := ⟨_, rfl⟩
              have b599 : (0 : Int) ≤ y597.toInt ∧ y597.toInt ≤ 1 := by rw [← m598]; exact th_iv hW rh0 (by decide) (by decide) rfl
              obtain ⟨y600, m601⟩ : ∃ x : Int32, oI (f580 h0) 21 = x := ⟨_, rfl⟩
              have b602 : (0 : Int) ≤ y600.toInt ∧ y600.toInt ≤ 400 := by rw [← m601]; exact th_iv hW rh0 (by decide) (by decide) rfl
              obtain ⟨y603, m604⟩ : ∃ x : Int32, oI (f580 h0) 27 = x := ⟨_, rfl⟩
              have b605 : (0 : Int) ≤ y603.toInt ∧ y603.toInt ≤ 400 := by rw [← m604]; exact th_iv hW rh0 (by decide) (by decide) rfl
              obtain ⟨y606, m607⟩ : ∃ x : Int64, oJ (f580 h0) 16 = x := ⟨_, rfl⟩
              simp only [((fm_I g583 rh0 rfl).trans m424), m424, m589, m428, m592, m431, m595, m434, m598, m455, m601, m443, m604, m449, m607, m437] at h584
              have h585 := h585 _ rfl
              refine lv_goto (tgt := 72) hx hb dX12_readExpression_40 (by decide) ?_
              refine lv_istore_n (lv' := [(2, .int x586), (0, .ref h0), (1, .int u1)]) hx hb dX12_readExpression_72 rfl hl (by decide) rfl (fun ls hl => ?_)
              refine lv_goto (tgt := 20) hx hb dX12_readExpression_73 (by decide) ?_
              exact ih20 f580 x586 y588 y591 y594 y606 y597 y600 (oI (f580 h0) 24) y603 ((fm_R g583 rh0 rfl).trans m423) ((fm_I g583 rh0 rfl).trans m424) (by omega) m589 (by first | omega | decide | trivial) m592 (by first | omega | decide | trivial) m595 (by first | omega | decide | trivial) m607 (by first | omega | decide | trivial) m598 (by first | omega | decide | trivial) m601 (by first | omega | decide | trivial) rfl (th_iv hW rh0 (by decide) (by decide) rfl) m604 (by first | omega | decide | trivial) (by omega) h585 (by omega) _ _ _ hW hF (lv_sub hl [0, 1, 2] rfl)
    have hk608 : (0 : Int32).toInt = 0 := rfl
    exact L453 905 f7 y13 pF13 pF14 pF15 pW pF18 pF21 pF24 0 ((fm_R g10 rh0 rfl).trans ((fm_R g4 rh0 rfl).trans mR)) ((fm_I g10 rh0 rfl).trans ((fm_I g4 rh0 rfl).trans mF12)) (by omega) ((fm_I g10 rh0 rfl).trans ((fm_I g4 rh0 rfl).trans mF13)) (by first | omega | decide | trivial) ((fm_I g10 rh0 rfl).trans ((fm_I g4 rh0 rfl).trans mF14)) (by first | omega | decide | trivial) ((fm_I g10 rh0 rfl).trans ((fm_I g4 rh0 rfl).trans mF15)) (by first | omega | decide | trivial) ((fm_J g10 rh0 rfl).trans ((fm_J g4 rh0 rfl).trans mW)) (by first | omega | decide | trivial) ((fm_I g10 rh0 rfl).trans ((fm_I g4 rh0 rfl).trans mF18)) (by first | omega | decide | trivial) ((fm_I g10 rh0 rfl).trans ((fm_I g4 rh0 rfl).trans mF21)) (by first | omega | decide | trivial) ((fm_I g10 rh0 rfl).trans ((fm_I g4 rh0 rfl).trans mF24)) (by first | omega | decide | trivial) ((fm_I g10 rh0 rfl).trans e2) (by first | omega | decide | trivial) (by omega) (gi_start (by rw [((fm_I g10 rh0 rfl).trans e2)]; rfl) (by rw [z12.2.2]; omega) z12.1 z12.2.1 (by rw [z12.2.2]; exact ega.symm) (by omega)) (by omega) _ _ _ hW hF (lv_sub hl [0, 1, 2] rfl)
  refine q_if_eq (tgt := 18) hx hb dX12_readExpression_11 (by decide) rfl (fun c609 => ?_) (fun c609 => ?_)
  · refine lv_iconst (v := 1) hx hb dX12_readExpression_18 (by decide) ?_
    exact J15 1 (by decide) _ _ _ hW hF (lv_sub hl [0, 1] rfl)
  · refine lv_iconst (v := 0) hx hb dX12_readExpression_14 (by decide) ?_
    refine lv_goto (tgt := 19) hx hb dX12_readExpression_15 (by decide) ?_
    exact J15 0 (by decide) _ _ _ hW hF (lv_sub hl [0, 1] rfl)
