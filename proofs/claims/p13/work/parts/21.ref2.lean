theorem dX12_four_0 : decode cX12_four 0 = .ok (.bipush 24, 2) := by decide +kernel
theorem dX12_four_2 : decode cX12_four 2 = .ok (.istore_n 2, 1) := by decide +kernel
theorem dX12_four_3 : decode cX12_four 3 = .ok (.iload_n 2, 1) := by decide +kernel
theorem dX12_four_4 : decode cX12_four 4 = .ok (.ifCond .lt 35, 3) := by decide +kernel
theorem dX12_four_39 : decode cX12_four 39 = .ok (.return_, 1) := by decide +kernel
theorem dX12_four_7 : decode cX12_four 7 = .ok (.aload_n 0, 1) := by decide +kernel
theorem dX12_four_8 : decode cX12_four 8 = .ok (.getfield 32, 3) := by decide +kernel
theorem dX12_four_11 : decode cX12_four 11 = .ok (.aload_n 0, 1) := by decide +kernel
theorem dX12_four_12 : decode cX12_four 12 = .ok (.getfield 174, 3) := by decide +kernel
theorem dX12_four_15 : decode cX12_four 15 = .ok (.iload_n 1, 1) := by decide +kernel
theorem dX12_four_16 : decode cX12_four 16 = .ok (.iload_n 2, 1) := by decide +kernel
theorem dX12_four_17 : decode cX12_four 17 = .ok (.ishr, 1) := by decide +kernel
theorem dX12_four_18 : decode cX12_four 18 = .ok (.sipush 255, 3) := by decide +kernel
theorem dX12_four_21 : decode cX12_four 21 = .ok (.iand, 1) := by decide +kernel
theorem dX12_four_22 : decode cX12_four 22 = .ok (.iastore, 1) := by decide +kernel
theorem dX12_four_23 : decode cX12_four 23 = .ok (.aload_n 0, 1) := by decide +kernel
theorem dX12_four_24 : decode cX12_four 24 = .ok (.dup, 1) := by decide +kernel
theorem dX12_four_25 : decode cX12_four 25 = .ok (.getfield 174, 3) := by decide +kernel
theorem dX12_four_28 : decode cX12_four 28 = .ok (.iconst 1, 1) := by decide +kernel
theorem dX12_four_29 : decode cX12_four 29 = .ok (.iadd, 1) := by decide +kernel
theorem dX12_four_30 : decode cX12_four 30 = .ok (.putfield 174, 3) := by decide +kernel
theorem dX12_four_33 : decode cX12_four 33 = .ok (.iinc 2 (-8), 3) := by decide +kernel
theorem dX12_four_36 : decode cX12_four 36 = .ok (.goto (-33), 3) := by decide +kernel
theorem dX12_feed_0 : decode cX12_feed 0 = .ok (.aload_n 0, 1) := by decide +kernel
theorem dX12_feed_1 : decode cX12_feed 1 = .ok (.iconst 0, 1) := by decide +kernel
theorem dX12_feed_2 : decode cX12_feed 2 = .ok (.putfield 82, 3) := by decide +kernel
theorem dX12_feed_5 : decode cX12_feed 5 = .ok (.aload_n 0, 1) := by decide +kernel
theorem dX12_feed_6 : decode cX12_feed 6 = .ok (.getfield 174, 3) := by decide +kernel
theorem dX12_feed_9 : decode cX12_feed 9 = .ok (.bipush 20, 2) := by decide +kernel
theorem dX12_feed_11 : decode cX12_feed 11 = .ok (.iadd, 1) := by decide +kernel
theorem dX12_feed_12 : decode cX12_feed 12 = .ok (.sipush 400, 3) := by decide +kernel
theorem dX12_feed_15 : decode cX12_feed 15 = .ok (.if_icmp .le 5, 3) := by decide +kernel
theorem dX12_feed_20 : decode cX12_feed 20 = .ok (.aload_n 0, 1) := by decide +kernel
theorem dX12_feed_21 : decode cX12_feed 21 = .ok (.iload_n 1, 1) := by decide +kernel
theorem dX12_feed_22 : decode cX12_feed 22 = .ok (.invokevirtual 186, 3) := by decide +kernel
theorem dX12_feed_25 : decode cX12_feed 25 = .ok (.aload_n 0, 1) := by decide +kernel
theorem dX12_feed_26 : decode cX12_feed 26 = .ok (.iload_n 2, 1) := by decide +kernel
theorem dX12_feed_27 : decode cX12_feed 27 = .ok (.invokevirtual 186, 3) := by decide +kernel
theorem dX12_feed_30 : decode cX12_feed 30 = .ok (.aload_n 0, 1) := by decide +kernel
theorem dX12_feed_31 : decode cX12_feed 31 = .ok (.iload_n 3, 1) := by decide +kernel
theorem dX12_feed_32 : decode cX12_feed 32 = .ok (.invokevirtual 186, 3) := by decide +kernel
theorem dX12_feed_35 : decode cX12_feed 35 = .ok (.aload_n 0, 1) := by decide +kernel
theorem dX12_feed_36 : decode cX12_feed 36 = .ok (.iload 4, 2) := by decide +kernel
theorem dX12_feed_38 : decode cX12_feed 38 = .ok (.invokevirtual 186, 3) := by decide +kernel
theorem dX12_feed_41 : decode cX12_feed 41 = .ok (.aload_n 0, 1) := by decide +kernel
theorem dX12_feed_42 : decode cX12_feed 42 = .ok (.iload 5, 2) := by decide +kernel
theorem dX12_feed_44 : decode cX12_feed 44 = .ok (.invokevirtual 186, 3) := by decide +kernel
theorem dX12_feed_47 : decode cX12_feed 47 = .ok (.aload_n 0, 1) := by decide +kernel
theorem dX12_feed_48 : decode cX12_feed 48 = .ok (.getfield 174, 3) := by decide +kernel
theorem dX12_feed_51 : decode cX12_feed 51 = .ok (.ireturn, 1) := by decide +kernel
theorem dX12_feed_18 : decode cX12_feed 18 = .ok (.iconst (-1), 1) := by decide +kernel
theorem dX12_feed_19 : decode cX12_feed 19 = .ok (.ireturn, 1) := by decide +kernel
theorem dX12_next_0 : decode cX12_next 0 = .ok (.aload_n 0, 1) := by decide +kernel
theorem dX12_next_1 : decode cX12_next 1 = .ok (.aload_n 0, 1) := by decide +kernel
theorem dX12_next_2 : decode cX12_next 2 = .ok (.getfield 190, 3) := by decide +kernel
theorem dX12_next_5 : decode cX12_next 5 = .ok (.putfield 199, 3) := by decide +kernel
theorem dX12_next_8 : decode cX12_next 8 = .ok (.aload_n 0, 1) := by decide +kernel
theorem dX12_next_9 : decode cX12_next 9 = .ok (.getfield 199, 3) := by decide +kernel
theorem dX12_next_12 : decode cX12_next 12 = .ok (.aload_n 0, 1) := by decide +kernel
theorem dX12_next_13 : decode cX12_next 13 = .ok (.getfield 174, 3) := by decide +kernel
theorem dX12_next_16 : decode cX12_next 16 = .ok (.if_icmp .ge 30, 3) := by decide +kernel
theorem dX12_next_46 : decode cX12_next 46 = .ok (.aload_n 0, 1) := by decide +kernel
theorem dX12_next_47 : decode cX12_next 47 = .ok (.aload_n 0, 1) := by decide +kernel
theorem dX12_next_48 : decode cX12_next 48 = .ok (.getfield 199, 3) := by decide +kernel
theorem dX12_next_51 : decode cX12_next 51 = .ok (.putfield 190, 3) := by decide +kernel
theorem dX12_next_54 : decode cX12_next 54 = .ok (.aload_n 0, 1) := by decide +kernel
theorem dX12_next_55 : decode cX12_next 55 = .ok (.lconst 0, 1) := by decide +kernel
theorem dX12_next_56 : decode cX12_next 56 = .ok (.putfield 202, 3) := by decide +kernel
theorem dX12_next_59 : decode cX12_next 59 = .ok (.aload_n 0, 1) := by decide +kernel
theorem dX12_next_60 : decode cX12_next 60 = .ok (.aload_n 0, 1) := by decide +kernel
theorem dX12_next_61 : decode cX12_next 61 = .ok (.getfield 199, 3) := by decide +kernel
theorem dX12_next_64 : decode cX12_next 64 = .ok (.aload_n 0, 1) := by decide +kernel
theorem dX12_next_65 : decode cX12_next 65 = .ok (.getfield 174, 3) := by decide +kernel
theorem dX12_next_68 : decode cX12_next 68 = .ok (.if_icmp .ne 7, 3) := by decide +kernel
theorem dX12_next_75 : decode cX12_next 75 = .ok (.aload_n 0, 1) := by decide +kernel
theorem dX12_next_76 : decode cX12_next 76 = .ok (.getfield 32, 3) := by decide +kernel
theorem dX12_next_79 : decode cX12_next 79 = .ok (.aload_n 0, 1) := by decide +kernel
theorem dX12_next_80 : decode cX12_next 80 = .ok (.getfield 199, 3) := by decide +kernel
theorem dX12_next_83 : decode cX12_next 83 = .ok (.iaload, 1) := by decide +kernel
theorem dX12_next_84 : decode cX12_next 84 = .ok (.invokestatic 206, 3) := by decide +kernel
theorem dX12_next_87 : decode cX12_next 87 = .ok (.ifCond .eq 7, 3) := by decide +kernel
theorem dX12_next_94 : decode cX12_next 94 = .ok (.aload_n 0, 1) := by decide +kernel
theorem dX12_next_95 : decode cX12_next 95 = .ok (.getfield 32, 3) := by decide +kernel
theorem dX12_next_98 : decode cX12_next 98 = .ok (.aload_n 0, 1) := by decide +kernel
theorem dX12_next_99 : decode cX12_next 99 = .ok (.getfield 199, 3) := by decide +kernel
theorem dX12_next_102 : decode cX12_next 102 = .ok (.iaload, 1) := by decide +kernel
theorem dX12_next_103 : decode cX12_next 103 = .ok (.invokestatic 209, 3) := by decide +kernel
theorem dX12_next_106 : decode cX12_next 106 = .ok (.ifCond .eq 7, 3) := by decide +kernel
theorem dX12_next_113 : decode cX12_next 113 = .ok (.iconst 3, 1) := by decide +kernel
theorem dX12_next_114 : decode cX12_next 114 = .ok (.putfield 212, 3) := by decide +kernel
theorem dX12_next_117 : decode cX12_next 117 = .ok (.aload_n 0, 1) := by decide +kernel
theorem dX12_next_118 : decode cX12_next 118 = .ok (.getfield 212, 3) := by decide +kernel
theorem dX12_next_121 : decode cX12_next 121 = .ok (.iconst 3, 1) := by decide +kernel
theorem dX12_next_122 : decode cX12_next 122 = .ok (.if_icmp .ne 27, 3) := by decide +kernel
theorem dX12_next_125 : decode cX12_next 125 = .ok (.aload_n 0, 1) := by decide +kernel
theorem dX12_next_126 : decode cX12_next 126 = .ok (.aload_n 0, 1) := by decide +kernel
theorem dX12_next_127 : decode cX12_next 127 = .ok (.getfield 32, 3) := by decide +kernel
theorem dX12_next_130 : decode cX12_next 130 = .ok (.aload_n 0, 1) := by decide +kernel
theorem dX12_next_131 : decode cX12_next 131 = .ok (.getfield 199, 3) := by decide +kernel
theorem dX12_next_134 : decode cX12_next 134 = .ok (.iaload, 1) := by decide +kernel
theorem dX12_next_135 : decode cX12_next 135 = .ok (.i2l, 1) := by decide +kernel
theorem dX12_next_136 : decode cX12_next 136 = .ok (.putfield 202, 3) := by decide +kernel
theorem dX12_next_139 : decode cX12_next 139 = .ok (.aload_n 0, 1) := by decide +kernel
theorem dX12_next_140 : decode cX12_next 140 = .ok (.dup, 1) := by decide +kernel
theorem dX12_next_141 : decode cX12_next 141 = .ok (.getfield 190, 3) := by decide +kernel
theorem dX12_next_144 : decode cX12_next 144 = .ok (.iconst 1, 1) := by decide +kernel
theorem dX12_next_145 : decode cX12_next 145 = .ok (.iadd, 1) := by decide +kernel
theorem dX12_next_146 : decode cX12_next 146 = .ok (.putfield 190, 3) := by decide +kernel
theorem dX12_next_149 : decode cX12_next 149 = .ok (.aload_n 0, 1) := by decide +kernel
theorem dX12_next_150 : decode cX12_next 150 = .ok (.getfield 212, 3) := by decide +kernel
theorem dX12_next_153 : decode cX12_next 153 = .ok (.iconst 1, 1) := by decide +kernel
theorem dX12_next_154 : decode cX12_next 154 = .ok (.if_icmp .ne 89, 3) := by decide +kernel
theorem dX12_next_243 : decode cX12_next 243 = .ok (.aload_n 0, 1) := by decide +kernel
theorem dX12_next_244 : decode cX12_next 244 = .ok (.getfield 212, 3) := by decide +kernel
theorem dX12_next_247 : decode cX12_next 247 = .ok (.iconst 2, 1) := by decide +kernel
theorem dX12_next_248 : decode cX12_next 248 = .ok (.if_icmp .ne 87, 3) := by decide +kernel
theorem dX12_next_335 : decode cX12_next 335 = .ok (.return_, 1) := by decide +kernel
theorem dX12_next_109 : decode cX12_next 109 = .ok (.iconst 2, 1) := by decide +kernel
theorem dX12_next_110 : decode cX12_next 110 = .ok (.goto 4, 3) := by decide +kernel
theorem dX12_next_251 : decode cX12_next 251 = .ok (.aload_n 0, 1) := by decide +kernel
theorem dX12_next_252 : decode cX12_next 252 = .ok (.getfield 190, 3) := by decide +kernel
theorem dX12_next_255 : decode cX12_next 255 = .ok (.aload_n 0, 1) := by decide +kernel
theorem dX12_next_256 : decode cX12_next 256 = .ok (.getfield 174, 3) := by decide +kernel
theorem dX12_next_259 : decode cX12_next 259 = .ok (.if_icmp .ge 76, 3) := by decide +kernel
theorem dX12_next_262 : decode cX12_next 262 = .ok (.aload_n 0, 1) := by decide +kernel
theorem dX12_next_263 : decode cX12_next 263 = .ok (.getfield 32, 3) := by decide +kernel
theorem dX12_next_266 : decode cX12_next 266 = .ok (.aload_n 0, 1) := by decide +kernel
theorem dX12_next_267 : decode cX12_next 267 = .ok (.getfield 190, 3) := by decide +kernel
theorem dX12_next_270 : decode cX12_next 270 = .ok (.iaload, 1) := by decide +kernel
theorem dX12_next_271 : decode cX12_next 271 = .ok (.invokestatic 209, 3) := by decide +kernel
theorem dX12_next_274 : decode cX12_next 274 = .ok (.ifCond .eq 61, 3) := by decide +kernel
theorem dX12_next_277 : decode cX12_next 277 = .ok (.aload_n 0, 1) := by decide +kernel
theorem dX12_next_278 : decode cX12_next 278 = .ok (.aload_n 0, 1) := by decide +kernel
theorem dX12_next_279 : decode cX12_next 279 = .ok (.getfield 202, 3) := by decide +kernel
theorem dX12_next_282 : decode cX12_next 282 = .ok (.ldc2_w 100, 3) := by decide +kernel
theorem dX12_next_285 : decode cX12_next 285 = .ok (.lcmp, 1) := by decide +kernel
theorem dX12_next_286 : decode cX12_next 286 = .ok (.ifCond .le 10, 3) := by decide +kernel
theorem dX12_next_319 : decode cX12_next 319 = .ok (.putfield 202, 3) := by decide +kernel
theorem dX12_next_322 : decode cX12_next 322 = .ok (.aload_n 0, 1) := by decide +kernel
theorem dX12_next_323 : decode cX12_next 323 = .ok (.dup, 1) := by decide +kernel
theorem dX12_next_324 : decode cX12_next 324 = .ok (.getfield 190, 3) := by decide +kernel
theorem dX12_next_327 : decode cX12_next 327 = .ok (.iconst 1, 1) := by decide +kernel
theorem dX12_next_328 : decode cX12_next 328 = .ok (.iadd, 1) := by decide +kernel
theorem dX12_next_329 : decode cX12_next 329 = .ok (.putfield 190, 3) := by decide +kernel
theorem dX12_next_332 : decode cX12_next 332 = .ok (.goto (-89), 3) := by decide +kernel
theorem dX12_next_296 : decode cX12_next 296 = .ok (.aload_n 0, 1) := by decide +kernel
theorem dX12_next_297 : decode cX12_next 297 = .ok (.getfield 202, 3) := by decide +kernel
theorem dX12_next_300 : decode cX12_next 300 = .ok (.ldc2_w 221, 3) := by decide +kernel
theorem dX12_next_303 : decode cX12_next 303 = .ok (.lmul, 1) := by decide +kernel
theorem dX12_next_304 : decode cX12_next 304 = .ok (.aload_n 0, 1) := by decide +kernel
theorem dX12_next_305 : decode cX12_next 305 = .ok (.getfield 32, 3) := by decide +kernel
theorem dX12_next_308 : decode cX12_next 308 = .ok (.aload_n 0, 1) := by decide +kernel
theorem dX12_next_309 : decode cX12_next 309 = .ok (.getfield 190, 3) := by decide +kernel
theorem dX12_next_312 : decode cX12_next 312 = .ok (.iaload, 1) := by decide +kernel
theorem dX12_next_313 : decode cX12_next 313 = .ok (.i2l, 1) := by decide +kernel
theorem dX12_next_314 : decode cX12_next 314 = .ok (.ladd, 1) := by decide +kernel
theorem dX12_next_315 : decode cX12_next 315 = .ok (.ldc2_w 223, 3) := by decide +kernel
theorem dX12_next_318 : decode cX12_next 318 = .ok (.lsub, 1) := by decide +kernel
theorem dX12_next_289 : decode cX12_next 289 = .ok (.aload_n 0, 1) := by decide +kernel
theorem dX12_next_290 : decode cX12_next 290 = .ok (.getfield 202, 3) := by decide +kernel
theorem dX12_next_293 : decode cX12_next 293 = .ok (.goto 26, 3) := by decide +kernel
theorem dX12_next_90 : decode cX12_next 90 = .ok (.iconst 1, 1) := by decide +kernel
theorem dX12_next_91 : decode cX12_next 91 = .ok (.goto 23, 3) := by decide +kernel
theorem dX12_next_157 : decode cX12_next 157 = .ok (.aload_n 0, 1) := by decide +kernel
theorem dX12_next_158 : decode cX12_next 158 = .ok (.getfield 190, 3) := by decide +kernel
theorem dX12_next_161 : decode cX12_next 161 = .ok (.aload_n 0, 1) := by decide +kernel
theorem dX12_next_162 : decode cX12_next 162 = .ok (.getfield 174, 3) := by decide +kernel
theorem dX12_next_165 : decode cX12_next 165 = .ok (.if_icmp .ge 78, 3) := by decide +kernel
theorem dX12_next_168 : decode cX12_next 168 = .ok (.aload_n 0, 1) := by decide +kernel
theorem dX12_next_169 : decode cX12_next 169 = .ok (.getfield 32, 3) := by decide +kernel
theorem dX12_next_172 : decode cX12_next 172 = .ok (.aload_n 0, 1) := by decide +kernel
theorem dX12_next_173 : decode cX12_next 173 = .ok (.getfield 190, 3) := by decide +kernel
theorem dX12_next_176 : decode cX12_next 176 = .ok (.iaload, 1) := by decide +kernel
theorem dX12_next_177 : decode cX12_next 177 = .ok (.invokestatic 206, 3) := by decide +kernel
theorem dX12_next_180 : decode cX12_next 180 = .ok (.ifCond .eq 63, 3) := by decide +kernel
theorem dX12_next_183 : decode cX12_next 183 = .ok (.aload_n 0, 1) := by decide +kernel
theorem dX12_next_184 : decode cX12_next 184 = .ok (.aload_n 0, 1) := by decide +kernel
theorem dX12_next_185 : decode cX12_next 185 = .ok (.getfield 190, 3) := by decide +kernel
theorem dX12_next_188 : decode cX12_next 188 = .ok (.aload_n 0, 1) := by decide +kernel
theorem dX12_next_189 : decode cX12_next 189 = .ok (.getfield 199, 3) := by decide +kernel
theorem dX12_next_192 : decode cX12_next 192 = .ok (.isub, 1) := by decide +kernel
theorem dX12_next_193 : decode cX12_next 193 = .ok (.bipush 10, 2) := by decide +kernel
theorem dX12_next_195 : decode cX12_next 195 = .ok (.if_icmp .ge 29, 3) := by decide +kernel
theorem dX12_next_227 : decode cX12_next 227 = .ok (.putfield 202, 3) := by decide +kernel
theorem dX12_next_230 : decode cX12_next 230 = .ok (.aload_n 0, 1) := by decide +kernel
theorem dX12_next_231 : decode cX12_next 231 = .ok (.dup, 1) := by decide +kernel
theorem dX12_next_232 : decode cX12_next 232 = .ok (.getfield 190, 3) := by decide +kernel
theorem dX12_next_235 : decode cX12_next 235 = .ok (.iconst 1, 1) := by decide +kernel
theorem dX12_next_236 : decode cX12_next 236 = .ok (.iadd, 1) := by decide +kernel
theorem dX12_next_237 : decode cX12_next 237 = .ok (.putfield 190, 3) := by decide +kernel
theorem dX12_next_240 : decode cX12_next 240 = .ok (.goto (-91), 3) := by decide +kernel
theorem dX12_next_224 : decode cX12_next 224 = .ok (.ldc2_w 219, 3) := by decide +kernel
theorem dX12_next_198 : decode cX12_next 198 = .ok (.aload_n 0, 1) := by decide +kernel
theorem dX12_next_199 : decode cX12_next 199 = .ok (.getfield 202, 3) := by decide +kernel
theorem dX12_next_202 : decode cX12_next 202 = .ok (.ldc2_w 215, 3) := by decide +kernel
theorem dX12_next_205 : decode cX12_next 205 = .ok (.lmul, 1) := by decide +kernel
theorem dX12_next_206 : decode cX12_next 206 = .ok (.aload_n 0, 1) := by decide +kernel
theorem dX12_next_207 : decode cX12_next 207 = .ok (.getfield 32, 3) := by decide +kernel
theorem dX12_next_210 : decode cX12_next 210 = .ok (.aload_n 0, 1) := by decide +kernel
theorem dX12_next_211 : decode cX12_next 211 = .ok (.getfield 190, 3) := by decide +kernel
theorem dX12_next_214 : decode cX12_next 214 = .ok (.iaload, 1) := by decide +kernel
theorem dX12_next_215 : decode cX12_next 215 = .ok (.i2l, 1) := by decide +kernel
theorem dX12_next_216 : decode cX12_next 216 = .ok (.ladd, 1) := by decide +kernel
theorem dX12_next_217 : decode cX12_next 217 = .ok (.ldc2_w 217, 3) := by decide +kernel
theorem dX12_next_220 : decode cX12_next 220 = .ok (.lsub, 1) := by decide +kernel
theorem dX12_next_221 : decode cX12_next 221 = .ok (.goto 6, 3) := by decide +kernel
theorem dX12_next_71 : decode cX12_next 71 = .ok (.iconst 0, 1) := by decide +kernel
theorem dX12_next_72 : decode cX12_next 72 = .ok (.goto 42, 3) := by decide +kernel
theorem dX12_next_19 : decode cX12_next 19 = .ok (.aload_n 0, 1) := by decide +kernel
theorem dX12_next_20 : decode cX12_next 20 = .ok (.getfield 32, 3) := by decide +kernel
theorem dX12_next_23 : decode cX12_next 23 = .ok (.aload_n 0, 1) := by decide +kernel
theorem dX12_next_24 : decode cX12_next 24 = .ok (.getfield 199, 3) := by decide +kernel
theorem dX12_next_27 : decode cX12_next 27 = .ok (.iaload, 1) := by decide +kernel
theorem dX12_next_28 : decode cX12_next 28 = .ok (.bipush 32, 2) := by decide +kernel
theorem dX12_next_30 : decode cX12_next 30 = .ok (.if_icmp .ne 16, 3) := by decide +kernel
theorem dX12_next_33 : decode cX12_next 33 = .ok (.aload_n 0, 1) := by decide +kernel
theorem dX12_next_34 : decode cX12_next 34 = .ok (.dup, 1) := by decide +kernel
theorem dX12_next_35 : decode cX12_next 35 = .ok (.getfield 199, 3) := by decide +kernel
theorem dX12_next_38 : decode cX12_next 38 = .ok (.iconst 1, 1) := by decide +kernel
theorem dX12_next_39 : decode cX12_next 39 = .ok (.iadd, 1) := by decide +kernel
theorem dX12_next_40 : decode cX12_next 40 = .ok (.putfield 199, 3) := by decide +kernel
theorem dX12_next_43 : decode cX12_next 43 = .ok (.goto (-35), 3) := by decide +kernel
def ms_X12_four : List (Nat × Nat) := [(12, 12), (831, 0)]
def po_X12_four (kp : Nat → Nat) (L : List Nat) (f0 : Nat → va_E) (h0 : Nat) (u1 : Int32) : Option Value → (Nat → va_E) → Prop := fun v f => v = none ∧ FM kp L ms_X12_four f0 f ∧ ((oI (f h0) 12).toInt = (oI (f0 h0) 12).toInt + 4)
set_option maxHeartbeats 4000000 in
set_option maxRecDepth 100000 in
theorem c_X12_four (l : Launch) (G : va_G) (cI cJ cZ cD cR cT : ClassId) (kp : Nat → Nat) (L : List Nat) (f0 : Nat → va_E) (hTH : TH cI cJ cZ cD cR cT kp L f0) (sz : Nat) (h0 : Nat) (u1 : Int32) (rh0 : RK kp L h0 12) (hq1 : (oI (f0 h0) 12).toInt ≤ 396) : Met l yX12_four (Cond.code yX12_four cX12_four 3 none :: wTab) ({ frames := 1, cells := 0, slots := 0, locals := 40 }) (va_Pc [.ref h0, .int u1] (PreW G (tys6 cI cJ cZ cD cR cT) (va_pl L f0) sz)) (QT (po_X12_four kp L f0 h0 u1) G cI cJ cZ cD cR cT (va_A (va_pl L f0) sz) kp L) 0 0 (va_A (va_pl L f0) sz) := by
  refine metT (by decide) (Nat.le_of_ble_eq_true rfl) hTH ?_
  intro p e s m below meth c A ls E hW hl
  obtain ⟨hx, hb, -, hml, hown, hts, -, -, -⟩ := id E
  have hF : FM kp L ms_X12_four f0 f0 := FM.rf
  have hl : lv_has ls 3 [(0, .ref h0), (1, .int u1)] := hl
  obtain ⟨pF12, mF12⟩ : ∃ x : Int32, oI (f0 h0) 12 = x := ⟨_, rfl⟩
  have bF12 : (0 : Int) ≤ pF12.toInt ∧ pF12.toInt ≤ 400 := by rw [← mF12]; exact th_iv hW rh0 (by decide) (by decide) rfl
  rw [mF12] at hq1
  refine lv_bipush (v := 24) hx hb dX12_four_0 (by decide) ?_
  refine lv_istore_n (lv' := [(2, .int 24), (0, .ref h0), (1, .int u1)]) hx hb dX12_four_2 rfl hl (by decide) rfl (fun ls hl => ?_)
  have L168 : ∀ (n : Nat), ∀ (f161 : Nat → va_E) (y162 : Int32) (y164 : Int32) (b163 : (-8 : Int) ≤ y162.toInt ∧ y162.toInt ≤ 24) (m165 : oI (f161 h0) 12 = y164) (b166 : (0 : Int) ≤ y164.toInt ∧ y164.toInt ≤ 400) (v167 : 8 * y164.toInt + y162.toInt = 24 + 8 * pF12.toInt) (hm : y162.toInt - (-9 : Int) ≤ n) (H : Heap) (locs : List Loc) (ls : Array Slot), WS G cI cJ cZ cD cR cT A kp L f161 s H locs → FM kp L ms_X12_four f0 f161 → lv_has ls 3 [(2, .int y162), (0, .ref h0), (1, .int u1)] → W p l e ({ frames := 1, cells := 0, slots := 0, locals := 40 }) s m ([.ref h0, .int u1] : List Value).toArray below meth c H locs 0 0 (MQ below (QT (po_X12_four kp L f0 h0 u1) G cI cJ cZ cD cR cT A kp L) ([.ref h0, .int u1] : List Value).toArray s 0 0 A) (F0 m 3 ls []) := by
    intro n
    induction n with
    | zero =>
      intro f161 y162 y164 b163 m165 b166 v167 hm H locs ls hW hF hl
      have hz := i32_b y162
      exfalso; omega
    | succ n ih =>
      intro f161 y162 y164 b163 m165 b166 v167 hm H locs ls hW hF hl
      have ih3 := ih
      refine lv_iload_n hx hb dX12_four_3 rfl (lv_at hl 0 rfl) ?_
      refine q_if_lt (tgt := 39) hx hb dX12_four_4 (by decide) rfl (fun c193 => ?_) (fun c193 => ?_)
      · exact e_V E hW rfl ⟨rfl, hF, (by rw [m165, mF12]; omega)⟩ dX12_four_39
      · refine lv_aload_n hx hb dX12_four_7 rfl (lv_at hl 1 rfl) ?_
        refine fg_RX12_32 E hW rh0 dX12_four_8 (fun a194 m195 r196 => ?_)
        refine lv_aload_n hx hb dX12_four_11 rfl (lv_at hl 1 rfl) ?_
        refine fg_RX12_174 E hW rh0 dX12_four_12 (fun y197 m198 b199 => ?_)
        obtain rfl : y164 = y197 := (m165).symm.trans m198
        refine lv_iload_n hx hb dX12_four_15 rfl (lv_at hl 2 rfl) ?_
        refine lv_iload_n hx hb dX12_four_16 rfl (lv_at hl 0 rfl) ?_
        refine u_ishr hx hb dX12_four_17 (fun x200 => ?_)
        refine lv_sipush (v := 255) hx hb dX12_four_18 (by decide) ?_
        refine q_iand (M := 255) (k := 8) hx hb dX12_four_21 (by decide) (by decide) (by decide) (fun x201 h202 => ?_)
        refine gs_831 E hW r196 ⟨by omega, by omega⟩ dX12_four_22 (fun f203 H locs e204 n205 g206 hW => ?_)
        have hF := FM.tr hF g206 rfl
        refine lv_aload_n hx hb dX12_four_23 rfl (lv_at hl 1 rfl) ?_
        refine lv_dup hx hb dX12_four_24 rfl ?_
        refine fg_RX12_174 E hW rh0 dX12_four_25 (fun y207 m208 b209 => ?_)
        obtain rfl : y164 = y207 := (((fm_I g206 rh0 rfl).trans m198)).symm.trans m208
        refine lv_iconst (v := 1) hx hb dX12_four_28 (by decide) ?_
        refine q_iadd (Y := 1) hx hb dX12_four_29 rfl rfl (by omega) (fun x210 h211 => ?_)
        refine fp_RX12_174 E hW rh0 (by omega) dX12_four_30 (fun f212 H locs e213 n214 g215 hW => ?_)
        have hF := FM.tr hF g215 rfl
        refine q_iinc hx hb dX12_four_33 hl (k := 0) rfl rfl rfl (by omega) (by decide) (fun i216 ls h217 hl => ?_)
        have hl : lv_has ls 3 [(2, .int i216), (0, .ref h0), (1, .int u1)] := hl
        refine lv_goto (tgt := 3) hx hb dX12_four_36 (by decide) ?_
        exact ih3 f212 i216 x210 (by omega) e213 (by first | omega | decide | trivial) (by omega) (by omega) _ _ _ hW hF (lv_sub hl [0, 1, 2] rfl)
  have hk218 : (24 : Int32).toInt = 24 := rfl
  exact L168 33 f0 24 pF12 (by decide) mF12 (by first | omega | decide | trivial) (by omega) (by omega) _ _ _ hW hF (lv_sub hl [0, 1, 2] rfl)
def ms_X12_feed : List (Nat × Nat) := [(12, 0), (12, 12), (831, 0)]
def po_X12_feed (kp : Nat → Nat) (L : List Nat) (f0 : Nat → va_E) (h0 : Nat) (u1 : Int32) (u2 : Int32) (u3 : Int32) (u4 : Int32) (u5 : Int32) : Option Value → (Nat → va_E) → Prop := fun v f => (∃ r : Int32, v = some (.int r) ∧ ((-1 : Int) ≤ r.toInt ∧ r.toInt ≤ 400)) ∧ FM kp L ms_X12_feed f0 f
set_option maxHeartbeats 4000000 in
set_option maxRecDepth 100000 in
theorem c_X12_feed (l : Launch) (G : va_G) (cI cJ cZ cD cR cT : ClassId) (kp : Nat → Nat) (L : List Nat) (f0 : Nat → va_E) (hTH : TH cI cJ cZ cD cR cT kp L f0) (sz : Nat) (h0 : Nat) (u1 : Int32) (u2 : Int32) (u3 : Int32) (u4 : Int32) (u5 : Int32) (rh0 : RK kp L h0 12) : Met l yX12_feed (Cond.code yX12_feed cX12_feed 6 (some .int) :: wTab) ({ frames := 2, cells := 0, slots := 0, locals := 62 }) (va_Pc [.ref h0, .int u1, .int u2, .int u3, .int u4, .int u5] (PreW G (tys6 cI cJ cZ cD cR cT) (va_pl L f0) sz)) (QT (po_X12_feed kp L f0 h0 u1 u2 u3 u4 u5) G cI cJ cZ cD cR cT (va_A (va_pl L f0) sz) kp L) 0 0 (va_A (va_pl L f0) sz) := by
  refine metT (by decide) (Nat.le_of_ble_eq_true rfl) hTH ?_
  intro p e s m below meth c A ls E hW hl
  obtain ⟨hx, hb, -, hml, hown, hts, -, -, -⟩ := id E
  have hF : FM kp L ms_X12_feed f0 f0 := FM.rf
  have hl : lv_has ls 6 [(0, .ref h0), (1, .int u1), (2, .int u2), (3, .int u3), (4, .int u4), (5, .int u5)] := hl
  refine lv_aload_n hx hb dX12_feed_0 rfl (lv_at hl 0 rfl) ?_
  refine lv_iconst (v := 0) hx hb dX12_feed_1 (by decide) ?_
  refine fp_RX12_82 E hW rh0 dX12_feed_2 (fun f1 H locs e2 n3 g4 hW => ?_)
  have hF := FM.tr hF g4 rfl
  refine lv_aload_n hx hb dX12_feed_5 rfl (lv_at hl 0 rfl) ?_
  refine fg_RX12_174 E hW rh0 dX12_feed_6 (fun y5 m6 b7 => ?_)
  refine lv_bipush (v := 20) hx hb dX12_feed_9 (by decide) ?_
  refine q_iadd (Y := 20) hx hb dX12_feed_11 rfl rfl (by omega) (fun x8 h9 => ?_)
  refine lv_sipush (v := 400) hx hb dX12_feed_12 (by decide) ?_
  refine q_icmp_le (Y := 400) (tgt := 20) hx hb dX12_feed_15 (by decide) rfl rfl (fun c10 => ?_) (fun c10 => ?_)
  · refine lv_aload_n hx hb dX12_feed_20 rfl (lv_at hl 0 rfl) ?_
    refine lv_iload_n hx hb dX12_feed_21 rfl (lv_at hl 1 rfl) ?_
    refine t_callV (As := [.int u1]) (rest := []) E hW (c_X12_four l G cI cJ cZ cD cR cT kp L f1 hW.2.2.2 _ h0 u1 rh0 (by rw [m6]; omega)) rh0 (by decide) rfl wk_X12_four tw_1749 rfl ⟨Nat.le_of_ble_eq_true rfl, Nat.le_of_ble_eq_true rfl⟩ ⟨rfl, rfl⟩ hl.1 rfl (Nat.le_of_ble_eq_true rfl) dX12_feed_22 ⟨Nat.le_of_ble_eq_true rfl, Nat.le_of_ble_eq_true rfl⟩ (fun v11 f12 H locs q13 hW => ?_)
    obtain ⟨rfl, g14, h15⟩ := q13
    have hF := FM.tr hF g14 rfl
    obtain ⟨y16, m17⟩ : ∃ x : Int32, oI (f12 h0) 12 = x := ⟨_, rfl⟩
    have b18 : (0 : Int) ≤ y16.toInt ∧ y16.toInt ≤ 400 := by rw [← m17]; exact th_iv hW rh0 (by decide) (by decide) rfl
    simp only [m17, m6] at h15
    refine lv_aload_n hx hb dX12_feed_25 rfl (lv_at hl 0 rfl) ?_
    refine lv_iload_n hx hb dX12_feed_26 rfl (lv_at hl 2 rfl) ?_
    refine t_callV (As := [.int u2]) (rest := []) E hW (c_X12_four l G cI cJ cZ cD cR cT kp L f12 hW.2.2.2 _ h0 u2 rh0 (by rw [m17]; omega)) rh0 (by decide) rfl wk_X12_four tw_1749 rfl ⟨Nat.le_of_ble_eq_true rfl, Nat.le_of_ble_eq_true rfl⟩ ⟨rfl, rfl⟩ hl.1 rfl (Nat.le_of_ble_eq_true rfl) dX12_feed_27 ⟨Nat.le_of_ble_eq_true rfl, Nat.le_of_ble_eq_true rfl⟩ (fun v19 f20 H locs q21 hW => ?_)
    obtain ⟨rfl, g22, h23⟩ := q21
    have hF := FM.tr hF g22 rfl
    obtain ⟨y24, m25⟩ : ∃ x : Int32, oI (f20 h0) 12 = x := ⟨_, rfl⟩
    have b26 : (0 : Int) ≤ y24.toInt ∧ y24.toInt ≤ 400 := by rw [← m25]; exact th_iv hW rh0 (by decide) (by decide) rfl
    simp only [m25, m17] at h23
    refine lv_aload_n hx hb dX12_feed_30 rfl (lv_at hl 0 rfl) ?_
    refine lv_iload_n hx hb dX12_feed_31 rfl (lv_at hl 3 rfl) ?_
    refine t_callV (As := [.int u3]) (rest := []) E hW (c_X12_four l G cI cJ cZ cD cR cT kp L f20 hW.2.2.2 _ h0 u3 rh0 (by rw [m25]; omega)) rh0 (by decide) rfl wk_X12_four tw_1749 rfl ⟨Nat.le_of_ble_eq_true rfl, Nat.le_of_ble_eq_true rfl⟩ ⟨rfl, rfl⟩ hl.1 rfl (Nat.le_of_ble_eq_true rfl) dX12_feed_32 ⟨Nat.le_of_ble_eq_true rfl, Nat.le_of_ble_eq_true rfl⟩ (fun v27 f28 H locs q29 hW => ?_)
    obtain ⟨rfl, g30, h31⟩ := q29
    have hF := FM.tr hF g30 rfl
    obtain ⟨y32, m33⟩ : ∃ x : Int32, oI (f28 h0) 12 = x := ⟨_, rfl⟩
    have b34 : (0 : Int) ≤ y32.toInt ∧ y32.toInt ≤ 400 := by rw [← m33]; exact th_iv hW rh0 (by decide) (by decide) rfl
    simp only [m33, m25] at h31
    refine lv_aload_n hx hb dX12_feed_35 rfl (lv_at hl 0 rfl) ?_
    refine lv_iload hx hb dX12_feed_36 (lv_at hl 4 rfl) ?_
    refine t_callV (As := [.int u4]) (rest := []) E hW (c_X12_four l G cI cJ cZ cD cR cT kp L f28 hW.2.2.2 _ h0 u4 rh0 (by rw [m33]; omega)) rh0 (by decide) rfl wk_X12_four tw_1749 rfl ⟨Nat.le_of_ble_eq_true rfl, Nat.le_of_ble_eq_true rfl⟩ ⟨rfl, rfl⟩ hl.1 rfl (Nat.le_of_ble_eq_true rfl) dX12_feed_38 ⟨Nat.le_of_ble_eq_true rfl, Nat.le_of_ble_eq_true rfl⟩ (fun v35 f36 H locs q37 hW => ?_)
    obtain ⟨rfl, g38, h39⟩ := q37
    have hF := FM.tr hF g38 rfl
    obtain ⟨y40, m41⟩ : ∃ x : Int32, oI (f36 h0) 12 = x := ⟨_, rfl⟩
    have b42 : (0 : Int) ≤ y40.toInt ∧ y40.toInt ≤ 400 := by rw [← m41]; exact th_iv hW rh0 (by decide) (by decide) rfl
    simp only [m41, m33] at h39
    refine lv_aload_n hx hb dX12_feed_41 rfl (lv_at hl 0 rfl) ?_
    refine lv_iload hx hb dX12_feed_42 (lv_at hl 5 rfl) ?_
    refine t_callV (As := [.int u5]) (rest := []) E hW (c_X12_four l G cI cJ cZ cD cR cT kp L f36 hW.2.2.2 _ h0 u5 rh0 (by rw [m41]; omega)) rh0 (by decide) rfl wk_X12_four tw_1749 rfl ⟨Nat.le_of_ble_eq_true rfl, Nat.le_of_ble_eq_true rfl⟩ ⟨rfl, rfl⟩ hl.1 rfl (Nat.le_of_ble_eq_true rfl) dX12_feed_44 ⟨Nat.le_of_ble_eq_true rfl, Nat.le_of_ble_eq_true rfl⟩ (fun v43 f44 H locs q45 hW => ?_)
    obtain ⟨rfl, g46, h47⟩ := q45
    have hF := FM.tr hF g46 rfl
    obtain ⟨y48, m49⟩ : ∃ x : Int32, oI (f44 h0) 12 = x := ⟨_, rfl⟩
    have b50 : (0 : Int) ≤ y48.toInt ∧ y48.toInt ≤ 400 := by rw [← m49]; exact th_iv hW rh0 (by decide) (by decide) rfl
    simp only [m49, m41] at h47
    refine lv_aload_n hx hb dX12_feed_47 rfl (lv_at hl 0 rfl) ?_
    refine fg_RX12_174 E hW rh0 dX12_feed_48 (fun y51 m52 b53 => ?_)
    obtain rfl : y48 = y51 := (m49).symm.trans m52
    exact e_I E hW rfl ⟨⟨_, rfl, (by first | omega | trivial)⟩, hF⟩ dX12_feed_51
  · refine lv_iconst (v := (-1)) hx hb dX12_feed_18 (by decide) ?_
    exact e_I E hW rfl ⟨⟨_, rfl, (by have hk : ((-1) : Int32).toInt = -1 := rfl; first | decide | omega)⟩, hF⟩ dX12_feed_19
def ms_X12_next : List (Nat × Nat) := [(12, 13), (12, 14), (12, 15), (12, 16)]
def po_X12_next (kp : Nat → Nat) (L : List Nat) (f0 : Nat → va_E) (h0 : Nat) : Option Value → (Nat → va_E) → Prop := fun v f => v = none ∧ FM kp L ms_X12_next f0 f
set_option maxHeartbeats 4000000 in
set_option maxRecDepth 100000 in
theorem c_X12_next (l : Launch) (G : va_G) (cI cJ cZ cD cR cT : ClassId) (kp : Nat → Nat) (L : List Nat) (f0 : Nat → va_E) (hTH : TH cI cJ cZ cD cR cT kp L f0) (sz : Nat) (h0 : Nat) (rh0 : RK kp L h0 12) (hq1 : (oI (f0 h0) 14).toInt ≤ (oI (f0 h0) 12).toInt) : Met l yX12_next (Cond.code yX12_next cX12_next 1 none :: wTab) ({ frames := 2, cells := 0, slots := 0, locals := 60 }) (va_Pc [.ref h0] (PreW G (tys6 cI cJ cZ cD cR cT) (va_pl L f0) sz)) (QT (po_X12_next kp L f0 h0) G cI cJ cZ cD cR cT (va_A (va_pl L f0) sz) kp L) 0 0 (va_A (va_pl L f0) sz) := by
  refine metT (by decide) (Nat.le_of_ble_eq_true rfl) hTH ?_
  intro p e s m below meth c A ls E hW hl
  obtain ⟨hx, hb, -, hml, hown, hts, -, -, -⟩ := id E
  have hF : FM kp L ms_X12_next f0 f0 := FM.rf
  have hl : lv_has ls 1 [(0, .ref h0)] := hl
  obtain ⟨pF12, mF12⟩ : ∃ x : Int32, oI (f0 h0) 12 = x := ⟨_, rfl⟩
  have bF12 : (0 : Int) ≤ pF12.toInt ∧ pF12.toInt ≤ 400 := by rw [← mF12]; exact th_iv hW rh0 (by decide) (by decide) rfl
  obtain ⟨pF14, mF14⟩ : ∃ x : Int32, oI (f0 h0) 14 = x := ⟨_, rfl⟩
  have bF14 : (0 : Int) ≤ pF14.toInt ∧ pF14.toInt ≤ 400 := by rw [← mF14]; exact th_iv hW rh0 (by decide) (by decide) rfl
  rw [mF14, mF12] at hq1
  refine lv_aload_n hx hb dX12_next_0 rfl (lv_at hl 0 rfl) ?_
  refine lv_aload_n hx hb dX12_next_1 rfl (lv_at hl 0 rfl) ?_
  refine fg_RX12_190 E hW rh0 dX12_next_2 (fun y1 m2 b3 => ?_)
  obtain rfl : pF14 = y1 := (mF14).symm.trans m2
  refine fp_RX12_199 E hW rh0 (by omega) dX12_next_5 (fun f4 H locs e5 n6 g7 hW => ?_)
  have hF := FM.tr hF g7 rfl
  have L50 : ∀ (n : Nat), ∀ (f42 : Nat → va_E) (y45 : Int32) (m43 : oI (f42 h0) 12 = pF12) (m44 : oI (f42 h0) 14 = pF14) (m46 : oI (f42 h0) 13 = y45) (b47 : (0 : Int) ≤ y45.toInt ∧ y45.toInt ≤ 400) (v48 : pF14.toInt ≤ y45.toInt) (v49 : y45.toInt ≤ pF12.toInt) (hm : (401 : Int) - y45.toInt ≤ n) (H : Heap) (locs : List Loc) (ls : Array Slot), WS G cI cJ cZ cD cR cT A kp L f42 s H locs → FM kp L ms_X12_next f0 f42 → lv_has ls 1 [(0, .ref h0)] → W p l e ({ frames := 2, cells := 0, slots := 0, locals := 60 }) s m ([.ref h0] : List Value).toArray below meth c H locs 0 0 (MQ below (QT (po_X12_next kp L f0 h0) G cI cJ cZ cD cR cT A kp L) ([.ref h0] : List Value).toArray s 0 0 A) (F0 m 8 ls []) := by
    intro n
    induction n with
    | zero =>
      intro f42 y45 m43 m44 m46 b47 v48 v49 hm H locs ls hW hF hl
      have hz := i32_b y45
      exfalso; omega
    | succ n ih =>
      intro f42 y45 m43 m44 m46 b47 v48 v49 hm H locs ls hW hF hl
      have ih8 := ih
      refine lv_aload_n hx hb dX12_next_8 rfl (lv_at hl 0 rfl) ?_
      refine fg_RX12_199 E hW rh0 dX12_next_9 (fun y51 m52 b53 => ?_)
      obtain rfl : y45 = y51 := (m46).symm.trans m52
      refine lv_aload_n hx hb dX12_next_12 rfl (lv_at hl 0 rfl) ?_
      refine fg_RX12_174 E hW rh0 dX12_next_13 (fun y54 m55 b56 => ?_)
      obtain rfl : pF12 = y54 := (m43).symm.trans m55
      have J76 : ∀ (H : Heap) (locs : List Loc) (ls : Array Slot), WS G cI cJ cZ cD cR cT A kp L f42 s H locs → FM kp L ms_X12_next f0 f42 → lv_has ls 1 [(0, .ref h0)] → W p l e ({ frames := 2, cells := 0, slots := 0, locals := 60 }) s m ([.ref h0] : List Value).toArray below meth c H locs 0 0 (MQ below (QT (po_X12_next kp L f0 h0) G cI cJ cZ cD cR cT A kp L) ([.ref h0] : List Value).toArray s 0 0 A) (F0 m 46 ls []) := by
        intro  H locs ls hW hF hl
        refine lv_aload_n hx hb dX12_next_46 rfl (lv_at hl 0 rfl) ?_
        refine lv_aload_n hx hb dX12_next_47 rfl (lv_at hl 0 rfl) ?_
        refine fg_RX12_199 E hW rh0 dX12_next_48 (fun y77 m78 b79 => ?_)
        obtain rfl : y45 = y77 := (m52).symm.trans m78
        refine fp_RX12_190 E hW rh0 (by omega) dX12_next_51 (fun f80 H locs e81 n82 g83 hW => ?_)
        have hF := FM.tr hF g83 rfl
        refine lv_aload_n hx hb dX12_next_54 rfl (lv_at hl 0 rfl) ?_
        refine lv_lconst (v := 0) hx hb dX12_next_55 (by decide) ?_
        refine fp_RX12_202 E hW rh0 dX12_next_56 (fun f84 H locs e85 n86 g87 hW => ?_)
        have hF := FM.tr hF g87 rfl
        refine lv_aload_n hx hb dX12_next_59 rfl (lv_at hl 0 rfl) ?_
        refine lv_aload_n hx hb dX12_next_60 rfl (lv_at hl 0 rfl) ?_
        refine fg_RX12_199 E hW rh0 dX12_next_61 (fun y88 m89 b90 => ?_)
        obtain rfl : y45 = y88 := (((fm_I g87 rh0 rfl).trans ((fm_I g83 rh0 rfl).trans m78))).symm.trans m89
        refine lv_aload_n hx hb dX12_next_64 rfl (lv_at hl 0 rfl) ?_
        refine fg_RX12_174 E hW rh0 dX12_next_65 (fun y91 m92 b93 => ?_)
        obtain rfl : pF12 = y91 := (((fm_I g87 rh0 rfl).trans ((fm_I g83 rh0 rfl).trans m55))).symm.trans m92
        refine q_icmp_ne (tgt := 75) hx hb dX12_next_68 (by decide) rfl rfl (fun c94 => ?_) (fun c94 => ?_)
        · refine lv_aload_n hx hb dX12_next_75 rfl (lv_at hl 0 rfl) ?_
          refine fg_RX12_32 E hW rh0 dX12_next_76 (fun a95 m96 r97 => ?_)
          refine lv_aload_n hx hb dX12_next_79 rfl (lv_at hl 0 rfl) ?_
          refine fg_RX12_199 E hW rh0 dX12_next_80 (fun y98 m99 b100 => ?_)
          obtain rfl : y45 = y98 := (m89).symm.trans m99
          refine gl_831 E hW r97 ⟨by omega, by omega⟩ dX12_next_83 (fun y101 m102 => ?_)
          refine t_callS (As := [.int y101]) (rest := [.ref h0]) E hW (c_X12_isSmall l G cI cJ cZ cD cR cT kp L f84 hW.2.2.2 _ y101) wk_X12_isSmall tw_1777 rfl ⟨Nat.le_of_ble_eq_true rfl, Nat.le_of_ble_eq_true rfl⟩ ⟨rfl, rfl⟩ hl.1 rfl (Nat.le_of_ble_eq_true rfl) dX12_next_84 ⟨Nat.le_of_ble_eq_true rfl, Nat.le_of_ble_eq_true rfl⟩ (fun v104 f105 H locs q106 hW => ?_)
          obtain ⟨⟨x108, rfl, p109⟩, g107⟩ := q106
          have hF := FM.tr hF g107 rfl
          refine q_if_eq (tgt := 94) hx hb dX12_next_87 (by decide) rfl (fun c110 => ?_) (fun c110 => ?_)
          · refine lv_aload_n hx hb dX12_next_94 rfl (lv_at hl 0 rfl) ?_
            refine fg_RX12_32 E hW rh0 dX12_next_95 (fun a111 m112 r113 => ?_)
            obtain rfl : a95 = a111 := (((fm_R g107 rh0 rfl).trans m96)).symm.trans m112
            refine lv_aload_n hx hb dX12_next_98 rfl (lv_at hl 0 rfl) ?_
            refine fg_RX12_199 E hW rh0 dX12_next_99 (fun y114 m115 b116 => ?_)
            obtain rfl : y45 = y114 := (((fm_I g107 rh0 rfl).trans m99)).symm.trans m115
            refine gl_831 E hW r97 ⟨by omega, by omega⟩ dX12_next_102 (fun y117 m118 => ?_)
            obtain rfl : y101 = y117 := (((congrArg (fun z => aI z (y45 : Int32).toNatClampNeg) (fm_A g107 r97 (by decide) rfl)).trans m102)).symm.trans m118
            refine t_callS (As := [.int y101]) (rest := [.ref h0]) E hW (c_X12_isDigit l G cI cJ cZ cD cR cT kp L f105 hW.2.2.2 _ y101) wk_X12_isDigit tw_1780 rfl ⟨Nat.le_of_ble_eq_true rfl, Nat.le_of_ble_eq_true rfl⟩ ⟨rfl, rfl⟩ hl.1 rfl (Nat.le_of_ble_eq_true rfl) dX12_next_103 ⟨Nat.le_of_ble_eq_true rfl, Nat.le_of_ble_eq_true rfl⟩ (fun v120 f121 H locs q122 hW => ?_)
            obtain ⟨⟨x124, rfl, p125⟩, g123⟩ := q122
            have hF := FM.tr hF g123 rfl
            refine q_if_eq (tgt := 113) hx hb dX12_next_106 (by decide) rfl (fun c126 => ?_) (fun c126 => ?_)
            · refine lv_iconst (v := 3) hx hb dX12_next_113 (by decide) ?_
              refine fp_RX12_212 E hW rh0 (by decide) dX12_next_114 (fun f127 H locs e128 n129 g130 hW => ?_)
              have hF := FM.tr hF g130 rfl
              refine lv_aload_n hx hb dX12_next_117 rfl (lv_at hl 0 rfl) ?_
              refine fg_RX12_212 E hW rh0 dX12_next_118 (fun y131 m132 b133 => ?_)
              obtain rfl : 3 = y131 := (e128).symm.trans m132
              refine lv_iconst (v := 3) hx hb dX12_next_121 (by decide) ?_
              refine q_icmp_ne (X := 3) (Y := 3) (tgt := 149) hx hb dX12_next_122 (by decide) rfl rfl (fun c => absurd c (by decide)) (fun _ => ?_)
              refine lv_aload_n hx hb dX12_next_125 rfl (lv_at hl 0 rfl) ?_
              refine lv_aload_n hx hb dX12_next_126 rfl (lv_at hl 0 rfl) ?_
              refine fg_RX12_32 E hW rh0 dX12_next_127 (fun a134 m135 r136 => ?_)
              obtain rfl : a95 = a134 := (((fm_R g130 rh0 rfl).trans ((fm_R g123 rh0 rfl).trans m112))).symm.trans m135
              refine lv_aload_n hx hb dX12_next_130 rfl (lv_at hl 0 rfl) ?_
              refine fg_RX12_199 E hW rh0 dX12_next_131 (fun y137 m138 b139 => ?_)
              obtain rfl : y45 = y137 := (((fm_I g130 rh0 rfl).trans ((fm_I g123 rh0 rfl).trans m115))).symm.trans m138
              refine gl_831 E hW r97 ⟨by omega, by omega⟩ dX12_next_134 (fun y140 m141 => ?_)
              obtain rfl : y101 = y140 := (((congrArg (fun z => aI z (y45 : Int32).toNatClampNeg) (fm_A g130 r97 (by decide) rfl)).trans ((congrArg (fun z => aI z (y45 : Int32).toNatClampNeg) (fm_A g123 r97 (by decide) rfl)).trans m118))).symm.trans m141
              refine q_i2l hx hb dX12_next_135 rfl (fun x143 h144 => ?_)
              have hb145 : -2147483648 ≤ x143.toInt ∧ x143.toInt ≤ 2147483647 := by have := i32_b y101; omega
              refine fp_RX12_202 E hW rh0 dX12_next_136 (fun f146 H locs e147 n148 g149 hW => ?_)
              have hF := FM.tr hF g149 rfl
              refine lv_aload_n hx hb dX12_next_139 rfl (lv_at hl 0 rfl) ?_
              refine lv_dup hx hb dX12_next_140 rfl ?_
              refine fg_RX12_190 E hW rh0 dX12_next_141 (fun y150 m151 b152 => ?_)
              obtain rfl : y45 = y150 := (((fm_I g149 rh0 rfl).trans ((fm_I g130 rh0 rfl).trans ((fm_I g123 rh0 rfl).trans ((fm_I g107 rh0 rfl).trans ((fm_I g87 rh0 rfl).trans e81)))))).symm.trans m151
              refine lv_iconst (v := 1) hx hb dX12_next_144 (by decide) ?_
              refine q_iadd (Y := 1) hx hb dX12_next_145 rfl rfl (by omega) (fun x153 h154 => ?_)
              refine fp_RX12_190 E hW rh0 (by omega) dX12_next_146 (fun f155 H locs e156 n157 g158 hW => ?_)
              have hF := FM.tr hF g158 rfl
              have L180 : ∀ (n : Nat), ∀ (f171 : Nat → va_E) (y176 : Int32) (m172 : oR (f171 h0) 11 = a95) (m173 : oI (f171 h0) 12 = pF12) (m174 : oI (f171 h0) 13 = y45) (m175 : oI (f171 h0) 15 = 3) (m177 : oI (f171 h0) 14 = y176) (b178 : (1 : Int) ≤ y176.toInt ∧ y176.toInt ≤ 401) (v179 : y176.toInt ≤ pF12.toInt) (hm : (1 : Int) ≤ n) (H : Heap) (locs : List Loc) (ls : Array Slot), WS G cI cJ cZ cD cR cT A kp L f171 s H locs → FM kp L ms_X12_next f0 f171 → lv_has ls 1 [(0, .ref h0)] → W p l e ({ frames := 2, cells := 0, slots := 0, locals := 60 }) s m ([.ref h0] : List Value).toArray below meth c H locs 0 0 (MQ below (QT (po_X12_next kp L f0 h0) G cI cJ cZ cD cR cT A kp L) ([.ref h0] : List Value).toArray s 0 0 A) (F0 m 149 ls []) := by
                intro n
                induction n with
                | zero =>
                  intro f171 y176 m172 m173 m174 m175 m177 b178 v179 hm H locs ls hW hF hl
                  exfalso; omega
                | succ n ih =>
                  intro f171 y176 m172 m173 m174 m175 m177 b178 v179 hm H locs ls hW hF hl
                  clear p109 c110 p125 c126 h144 hb145
                  have ih149 := ih
                  refine lv_aload_n hx hb dX12_next_149 rfl (lv_at hl 0 rfl) ?_
                  refine fg_RX12_212 E hW rh0 dX12_next_150 (fun y181 m182 b183 => ?_)
                  obtain rfl : 3 = y181 := (m175).symm.trans m182
                  refine lv_iconst (v := 1) hx hb dX12_next_153 (by decide) ?_
                  refine q_icmp_ne (X := 3) (Y := 1) (tgt := 243) hx hb dX12_next_154 (by decide) rfl rfl (fun _ => ?_) (fun c => absurd c (by decide))
                  have L205 : ∀ (n : Nat), ∀ (f196 : Nat → va_E) (y201 : Int32) (m197 : oR (f196 h0) 11 = a95) (m198 : oI (f196 h0) 12 = pF12) (m199 : oI (f196 h0) 13 = y45) (m200 : oI (f196 h0) 15 = 3) (m202 : oI (f196 h0) 14 = y201) (b203 : (1 : Int) ≤ y201.toInt ∧ y201.toInt ≤ 401) (v204 : y201.toInt ≤ pF12.toInt) (hm : (1 : Int) ≤ n) (H : Heap) (locs : List Loc) (ls : Array Slot), WS G cI cJ cZ cD cR cT A kp L f196 s H locs → FM kp L ms_X12_next f0 f196 → lv_has ls 1 [(0, .ref h0)] → W p l e ({ frames := 2, cells := 0, slots := 0, locals := 60 }) s m ([.ref h0] : List Value).toArray below meth c H locs 0 0 (MQ below (QT (po_X12_next kp L f0 h0) G cI cJ cZ cD cR cT A kp L) ([.ref h0] : List Value).toArray s 0 0 A) (F0 m 243 ls []) := by
                    intro n
                    induction n with
                    | zero =>
                      intro f196 y201 m197 m198 m199 m200 m202 b203 v204 hm H locs ls hW hF hl
                      exfalso; omega
                    | succ n ih =>
                      intro f196 y201 m197 m198 m199 m200 m202 b203 v204 hm H locs ls hW hF hl
                      have ih243 := ih
                      refine lv_aload_n hx hb dX12_next_243 rfl (lv_at hl 0 rfl) ?_
                      refine fg_RX12_212 E hW rh0 dX12_next_244 (fun y206 m207 b208 => ?_)
                      obtain rfl : 3 = y206 := (m200).symm.trans m207
                      refine lv_iconst (v := 2) hx hb dX12_next_247 (by decide) ?_
                      refine q_icmp_ne (X := 3) (Y := 2) (tgt := 335) hx hb dX12_next_248 (by decide) rfl rfl (fun _ => ?_) (fun c => absurd c (by decide))
                      exact e_V E hW rfl ⟨rfl, hF⟩ dX12_next_335
                  exact L205 1 f171 y176 m172 m173 m174 m182 m177 (by first | omega | decide | trivial) (by omega) (by omega) _ _ _ hW hF (lv_sub hl [0] rfl)
              exact L180 1 f155 x153 ((fm_R g158 rh0 rfl).trans ((fm_R g149 rh0 rfl).trans m135)) ((fm_I g158 rh0 rfl).trans ((fm_I g149 rh0 rfl).trans ((fm_I g130 rh0 rfl).trans ((fm_I g123 rh0 rfl).trans ((fm_I g107 rh0 rfl).trans m92))))) ((fm_I g158 rh0 rfl).trans ((fm_I g149 rh0 rfl).trans m138)) ((fm_I g158 rh0 rfl).trans ((fm_I g149 rh0 rfl).trans m132)) e156 (by first | omega | decide | trivial) (by omega) (by omega) _ _ _ hW hF (lv_sub hl [0] rfl)
            · refine lv_iconst (v := 2) hx hb dX12_next_109 (by decide) ?_
              refine lv_goto (tgt := 114) hx hb dX12_next_110 (by decide) ?_
              refine fp_RX12_212 E hW rh0 (by decide) dX12_next_114 (fun f209 H locs e210 n211 g212 hW => ?_)
              have hF := FM.tr hF g212 rfl
              refine lv_aload_n hx hb dX12_next_117 rfl (lv_at hl 0 rfl) ?_
              refine fg_RX12_212 E hW rh0 dX12_next_118 (fun y213 m214 b215 => ?_)
              obtain rfl : 2 = y213 := (e210).symm.trans m214
              refine lv_iconst (v := 3) hx hb dX12_next_121 (by decide) ?_
              refine q_icmp_ne (X := 2) (Y := 3) (tgt := 149) hx hb dX12_next_122 (by decide) rfl rfl (fun _ => ?_) (fun c => absurd c (by decide))
              have L237 : ∀ (n : Nat), ∀ (f228 : Nat → va_E) (y233 : Int32) (m229 : oR (f228 h0) 11 = a95) (m230 : oI (f228 h0) 12 = pF12) (m231 : oI (f228 h0) 13 = y45) (m232 : oI (f228 h0) 15 = 2) (m234 : oI (f228 h0) 14 = y233) (b235 : (0 : Int) ≤ y233.toInt ∧ y233.toInt ≤ 400) (v236 : y233.toInt ≤ pF12.toInt) (hm : (1 : Int) ≤ n) (H : Heap) (locs : List Loc) (ls : Array Slot), WS G cI cJ cZ cD cR cT A kp L f228 s H locs → FM kp L ms_X12_next f0 f228 → lv_has ls 1 [(0, .ref h0)] → W p l e ({ frames := 2, cells := 0, slots := 0, locals := 60 }) s m ([.ref h0] : List Value).toArray below meth c H locs 0 0 (MQ below (QT (po_X12_next kp L f0 h0) G cI cJ cZ cD cR cT A kp L) ([.ref h0] : List Value).toArray s 0 0 A) (F0 m 149 ls []) := by
                intro n
                induction n with
                | zero =>
                  intro f228 y233 m229 m230 m231 m232 m234 b235 v236 hm H locs ls hW hF hl
                  exfalso; omega
                | succ n ih =>
                  intro f228 y233 m229 m230 m231 m232 m234 b235 v236 hm H locs ls hW hF hl
                  clear p109 c110 p125 c126
                  have ih149 := ih
                  refine lv_aload_n hx hb dX12_next_149 rfl (lv_at hl 0 rfl) ?_
                  refine fg_RX12_212 E hW rh0 dX12_next_150 (fun y238 m239 b240 => ?_)
                  obtain rfl : 2 = y238 := (m232).symm.trans m239
                  refine lv_iconst (v := 1) hx hb dX12_next_153 (by decide) ?_
                  refine q_icmp_ne (X := 2) (Y := 1) (tgt := 243) hx hb dX12_next_154 (by decide) rfl rfl (fun _ => ?_) (fun c => absurd c (by decide))
                  have L341 : ∀ (n : Nat), ∀ (f332 : Nat → va_E) (y337 : Int32) (m333 : oR (f332 h0) 11 = a95) (m334 : oI (f332 h0) 12 = pF12) (m335 : oI (f332 h0) 13 = y45) (m336 : oI (f332 h0) 15 = 2) (m338 : oI (f332 h0) 14 = y337) (b339 : (0 : Int) ≤ y337.toInt ∧ y337.toInt ≤ 400) (v340 : y337.toInt ≤ pF12.toInt) (hm : (401 : Int) - y337.toInt ≤ n) (H : Heap) (locs : List Loc) (ls : Array Slot), WS G cI cJ cZ cD cR cT A kp L f332 s H locs → FM kp L ms_X12_next f0 f332 → lv_has ls 1 [(0, .ref h0)] → W p l e ({ frames := 2, cells := 0, slots := 0, locals := 60 }) s m ([.ref h0] : List Value).toArray below meth c H locs 0 0 (MQ below (QT (po_X12_next kp L f0 h0) G cI cJ cZ cD cR cT A kp L) ([.ref h0] : List Value).toArray s 0 0 A) (F0 m 243 ls []) := by
                    intro n
                    induction n with
                    | zero =>
                      intro f332 y337 m333 m334 m335 m336 m338 b339 v340 hm H locs ls hW hF hl
                      have hz := i32_b y337
                      exfalso; omega
                    | succ n ih =>
                      intro f332 y337 m333 m334 m335 m336 m338 b339 v340 hm H locs ls hW hF hl
                      have ih243 := ih
                      refine lv_aload_n hx hb dX12_next_243 rfl (lv_at hl 0 rfl) ?_
                      refine fg_RX12_212 E hW rh0 dX12_next_244 (fun y342 m343 b344 => ?_)
                      obtain rfl : 2 = y342 := (m336).symm.trans m343
                      refine lv_iconst (v := 2) hx hb dX12_next_247 (by decide) ?_
                      refine q_icmp_ne (X := 2) (Y := 2) (tgt := 335) hx hb dX12_next_248 (by decide) rfl rfl (fun c => absurd c (by decide)) (fun _ => ?_)
                      refine lv_aload_n hx hb dX12_next_251 rfl (lv_at hl 0 rfl) ?_
                      refine fg_RX12_190 E hW rh0 dX12_next_252 (fun y345 m346 b347 => ?_)
                      obtain rfl : y337 = y345 := (m338).symm.trans m346
                      refine lv_aload_n hx hb dX12_next_255 rfl (lv_at hl 0 rfl) ?_
                      refine fg_RX12_174 E hW rh0 dX12_next_256 (fun y348 m349 b350 => ?_)
                      obtain rfl : pF12 = y348 := (m334).symm.trans m349
                      have J429 : ∀ (f423 : Nat → va_E) (m424 : oR (f423 h0) 11 = a95) (m425 : oI (f423 h0) 12 = pF12) (m426 : oI (f423 h0) 13 = y45) (m427 : oI (f423 h0) 14 = y337) (m428 : oI (f423 h0) 15 = 2) (H : Heap) (locs : List Loc) (ls : Array Slot), WS G cI cJ cZ cD cR cT A kp L f423 s H locs → FM kp L ms_X12_next f0 f423 → lv_has ls 1 [(0, .ref h0)] → W p l e ({ frames := 2, cells := 0, slots := 0, locals := 60 }) s m ([.ref h0] : List Value).toArray below meth c H locs 0 0 (MQ below (QT (po_X12_next kp L f0 h0) G cI cJ cZ cD cR cT A kp L) ([.ref h0] : List Value).toArray s 0 0 A) (F0 m 335 ls []) := by
                        intro f423 m424 m425 m426 m427 m428 H locs ls hW hF hl
                        exact e_V E hW rfl ⟨rfl, hF⟩ dX12_next_335
                      refine q_icmp_ge (tgt := 335) hx hb dX12_next_259 (by decide) rfl rfl (fun c430 => ?_) (fun c430 => ?_)
                      · exact J429 f332 m333 m349 m335 m346 m343 _ _ _ hW hF (lv_sub hl [0] rfl)
                      · refine lv_aload_n hx hb dX12_next_262 rfl (lv_at hl 0 rfl) ?_
                        refine fg_RX12_32 E hW rh0 dX12_next_263 (fun a431 m432 r433 => ?_)
                        obtain rfl : a95 = a431 := (m333).symm.trans m432
                        refine lv_aload_n hx hb dX12_next_266 rfl (lv_at hl 0 rfl) ?_
                        refine fg_RX12_190 E hW rh0 dX12_next_267 (fun y434 m435 b436 => ?_)
                        obtain rfl : y337 = y434 := (m346).symm.trans m435
                        refine gl_831 E hW r97 ⟨by omega, by omega⟩ dX12_next_270 (fun y437 m438 => ?_)
                        refine t_callS (As := [.int y437]) (rest := []) E hW (c_X12_isDigit l G cI cJ cZ cD cR cT kp L f332 hW.2.2.2 _ y437) wk_X12_isDigit tw_1780 rfl ⟨Nat.le_of_ble_eq_true rfl, Nat.le_of_ble_eq_true rfl⟩ ⟨rfl, rfl⟩ hl.1 rfl (Nat.le_of_ble_eq_true rfl) dX12_next_271 ⟨Nat.le_of_ble_eq_true rfl, Nat.le_of_ble_eq_true rfl⟩ (fun v440 f441 H locs q442 hW => ?_)
                        obtain ⟨⟨x444, rfl, p445⟩, g443⟩ := q442
                        have hF := FM.tr hF g443 rfl
                        refine q_if_eq (tgt := 335) hx hb dX12_next_274 (by decide) rfl (fun c446 => ?_) (fun c446 => ?_)
                        · exact J429 f441 ((fm_R g443 rh0 rfl).trans m432) ((fm_I g443 rh0 rfl).trans m349) ((fm_I g443 rh0 rfl).trans m335) ((fm_I g443 rh0 rfl).trans m435) ((fm_I g443 rh0 rfl).trans m343) _ _ _ hW hF (lv_sub hl [0] rfl)
                        · refine lv_aload_n hx hb dX12_next_277 rfl (lv_at hl 0 rfl) ?_
                          refine lv_aload_n hx hb dX12_next_278 rfl (lv_at hl 0 rfl) ?_
                          refine fg_RX12_202 E hW rh0 dX12_next_279 (fun y447 m448 => ?_)
                          refine lv_ldc2 (v := 1000000) hx hb hown (hts _ tw_1570) dX12_next_282 ?_
                          have J469 : ∀ (y468 : Int64) (H : Heap) (locs : List Loc) (ls : Array Slot), WS G cI cJ cZ cD cR cT A kp L f441 s H locs → FM kp L ms_X12_next f0 f441 → lv_has ls 1 [(0, .ref h0)] → W p l e ({ frames := 2, cells := 0, slots := 0, locals := 60 }) s m ([.ref h0] : List Value).toArray below meth c H locs 0 0 (MQ below (QT (po_X12_next kp L f0 h0) G cI cJ cZ cD cR cT A kp L) ([.ref h0] : List Value).toArray s 0 0 A) (F0 m 319 ls [.long y468, .ref h0]) := by
                            intro y468 H locs ls hW hF hl
                            clear p445 c446
                            refine fp_RX12_202 E hW rh0 dX12_next_319 (fun f470 H locs e471 n472 g473 hW => ?_)
                            have hF := FM.tr hF g473 rfl
                            refine lv_aload_n hx hb dX12_next_322 rfl (lv_at hl 0 rfl) ?_
                            refine lv_dup hx hb dX12_next_323 rfl ?_
                            refine fg_RX12_190 E hW rh0 dX12_next_324 (fun y474 m475 b476 => ?_)
                            obtain rfl : y337 = y474 := (((fm_I g473 rh0 rfl).trans ((fm_I g443 rh0 rfl).trans m435))).symm.trans m475
                            refine lv_iconst (v := 1) hx hb dX12_next_327 (by decide) ?_
                            refine q_iadd (Y := 1) hx hb dX12_next_328 rfl rfl (by omega) (fun x477 h478 => ?_)
                            refine fp_RX12_190 E hW rh0 (by omega) dX12_next_329 (fun f479 H locs e480 n481 g482 hW => ?_)
                            have hF := FM.tr hF g482 rfl
                            refine lv_goto (tgt := 243) hx hb dX12_next_332 (by decide) ?_
                            exact ih243 f479 x477 ((fm_R g482 rh0 rfl).trans ((fm_R g473 rh0 rfl).trans ((fm_R g443 rh0 rfl).trans m432))) ((fm_I g482 rh0 rfl).trans ((fm_I g473 rh0 rfl).trans ((fm_I g443 rh0 rfl).trans m349))) ((fm_I g482 rh0 rfl).trans ((fm_I g473 rh0 rfl).trans ((fm_I g443 rh0 rfl).trans m335))) ((fm_I g482 rh0 rfl).trans ((fm_I g473 rh0 rfl).trans ((fm_I g443 rh0 rfl).trans m343))) e480 (by first | omega | decide | trivial) (by omega) (by omega) _ _ _ hW hF (lv_sub hl [0] rfl)
                          refine q_lcmp_le (Y := 1000000) (tgt := 296) hx hb dX12_next_285 dX12_next_286 (by decide) rfl rfl (fun c483 => ?_) (fun c483 => ?_)
                          · refine lv_aload_n hx hb dX12_next_296 rfl (lv_at hl 0 rfl) ?_
                            refine fg_RX12_202 E hW rh0 dX12_next_297 (fun y484 m485 => ?_)
                            refine lv_ldc2 (v := 10) hx hb hown (hts _ tw_1786) dX12_next_300 ?_
                            refine u_lmul hx hb dX12_next_303 (fun x486 => ?_)
                            refine lv_aload_n hx hb dX12_next_304 rfl (lv_at hl 0 rfl) ?_
                            refine fg_RX12_32 E hW rh0 dX12_next_305 (fun a487 m488 r489 => ?_)
                            obtain rfl : a95 = a487 := (((fm_R g443 rh0 rfl).trans m432)).symm.trans m488
                            refine lv_aload_n hx hb dX12_next_308 rfl (lv_at hl 0 rfl) ?_
                            refine fg_RX12_190 E hW rh0 dX12_next_309 (fun y490 m491 b492 => ?_)
                            obtain rfl : y337 = y490 := (((fm_I g443 rh0 rfl).trans m435)).symm.trans m491
                            refine gl_831 E hW r97 ⟨by omega, by omega⟩ dX12_next_312 (fun y493 m494 => ?_)
                            obtain rfl : y437 = y493 := (((congrArg (fun z => aI z (y337 : Int32).toNatClampNeg) (fm_A g443 r97 (by decide) rfl)).trans m438)).symm.trans m494
                            refine q_i2l hx hb dX12_next_313 rfl (fun x496 h497 => ?_)
                            have hb498 : -2147483648 ≤ x496.toInt ∧ x496.toInt ≤ 2147483647 := by have := i32_b y437; omega
                            refine u_ladd hx hb dX12_next_314 (fun x499 => ?_)
                            refine lv_ldc2 (v := 48) hx hb hown (hts _ tw_1787) dX12_next_315 ?_
                            refine u_lsub hx hb dX12_next_318 (fun x500 => ?_)
                            exact J469 x500  _ _ _ hW hF (lv_sub hl [0] rfl)
                          · refine lv_aload_n hx hb dX12_next_289 rfl (lv_at hl 0 rfl) ?_
                            refine fg_RX12_202 E hW rh0 dX12_next_290 (fun y501 m502 => ?_)
                            refine lv_goto (tgt := 319) hx hb dX12_next_293 (by decide) ?_
                            exact J469 y501  _ _ _ hW hF (lv_sub hl [0] rfl)
                  exact L341 401 f228 y233 m229 m230 m231 m239 m234 (by first | omega | decide | trivial) (by omega) (by omega) _ _ _ hW hF (lv_sub hl [0] rfl)
              exact L237 1 f209 y45 ((fm_R g212 rh0 rfl).trans ((fm_R g123 rh0 rfl).trans m112)) ((fm_I g212 rh0 rfl).trans ((fm_I g123 rh0 rfl).trans ((fm_I g107 rh0 rfl).trans m92))) ((fm_I g212 rh0 rfl).trans ((fm_I g123 rh0 rfl).trans m115)) m214 ((fm_I g212 rh0 rfl).trans ((fm_I g123 rh0 rfl).trans ((fm_I g107 rh0 rfl).trans ((fm_I g87 rh0 rfl).trans e81)))) (by first | omega | decide | trivial) (by omega) (by omega) _ _ _ hW hF (lv_sub hl [0] rfl)
          · refine lv_iconst (v := 1) hx hb dX12_next_90 (by decide) ?_
            refine lv_goto (tgt := 114) hx hb dX12_next_91 (by decide) ?_
            refine fp_RX12_212 E hW rh0 (by decide) dX12_next_114 (fun f503 H locs e504 n505 g506 hW => ?_)
            have hF := FM.tr hF g506 rfl
            refine lv_aload_n hx hb dX12_next_117 rfl (lv_at hl 0 rfl) ?_
            refine fg_RX12_212 E hW rh0 dX12_next_118 (fun y507 m508 b509 => ?_)
            obtain rfl : 1 = y507 := (e504).symm.trans m508
            refine lv_iconst (v := 3) hx hb dX12_next_121 (by decide) ?_
            refine q_icmp_ne (X := 1) (Y := 3) (tgt := 149) hx hb dX12_next_122 (by decide) rfl rfl (fun _ => ?_) (fun c => absurd c (by decide))
            have L612 : ∀ (n : Nat), ∀ (f603 : Nat → va_E) (y608 : Int32) (m604 : oR (f603 h0) 11 = a95) (m605 : oI (f603 h0) 12 = pF12) (m606 : oI (f603 h0) 13 = y45) (m607 : oI (f603 h0) 15 = 1) (m609 : oI (f603 h0) 14 = y608) (b610 : (0 : Int) ≤ y608.toInt ∧ y608.toInt ≤ 400) (v611 : y608.toInt ≤ pF12.toInt) (hm : (401 : Int) - y608.toInt ≤ n) (H : Heap) (locs : List Loc) (ls : Array Slot), WS G cI cJ cZ cD cR cT A kp L f603 s H locs → FM kp L ms_X12_next f0 f603 → lv_has ls 1 [(0, .ref h0)] → W p l e ({ frames := 2, cells := 0, slots := 0, locals := 60 }) s m ([.ref h0] : List Value).toArray below meth c H locs 0 0 (MQ below (QT (po_X12_next kp L f0 h0) G cI cJ cZ cD cR cT A kp L) ([.ref h0] : List Value).toArray s 0 0 A) (F0 m 149 ls []) := by
              intro n
              induction n with
              | zero =>
                intro f603 y608 m604 m605 m606 m607 m609 b610 v611 hm H locs ls hW hF hl
                have hz := i32_b y608
                exfalso; omega
              | succ n ih =>
                intro f603 y608 m604 m605 m606 m607 m609 b610 v611 hm H locs ls hW hF hl
                clear p109 c110
                have ih149 := ih
                refine lv_aload_n hx hb dX12_next_149 rfl (lv_at hl 0 rfl) ?_
                refine fg_RX12_212 E hW rh0 dX12_next_150 (fun y613 m614 b615 => ?_)
                obtain rfl : 1 = y613 := (m607).symm.trans m614
                refine lv_iconst (v := 1) hx hb dX12_next_153 (by decide) ?_
                refine q_icmp_ne (X := 1) (Y := 1) (tgt := 243) hx hb dX12_next_154 (by decide) rfl rfl (fun c => absurd c (by decide)) (fun _ => ?_)
                refine lv_aload_n hx hb dX12_next_157 rfl (lv_at hl 0 rfl) ?_
                refine fg_RX12_190 E hW rh0 dX12_next_158 (fun y616 m617 b618 => ?_)
                obtain rfl : y608 = y616 := (m609).symm.trans m617
                refine lv_aload_n hx hb dX12_next_161 rfl (lv_at hl 0 rfl) ?_
                refine fg_RX12_174 E hW rh0 dX12_next_162 (fun y619 m620 b621 => ?_)
                obtain rfl : pF12 = y619 := (m605).symm.trans m620
                have J706 : ∀ (f696 : Nat → va_E) (y702 : Int32) (m697 : oR (f696 h0) 11 = a95) (m698 : oI (f696 h0) 12 = pF12) (m699 : oI (f696 h0) 13 = y45) (m700 : oI (f696 h0) 14 = y608) (m701 : oI (f696 h0) 15 = 1) (m703 : oI (f696 h0) 14 = y702) (b704 : (0 : Int) ≤ y702.toInt ∧ y702.toInt ≤ 400) (v705 : y702.toInt ≤ pF12.toInt) (H : Heap) (locs : List Loc) (ls : Array Slot), WS G cI cJ cZ cD cR cT A kp L f696 s H locs → FM kp L ms_X12_next f0 f696 → lv_has ls 1 [(0, .ref h0)] → W p l e ({ frames := 2, cells := 0, slots := 0, locals := 60 }) s m ([.ref h0] : List Value).toArray below meth c H locs 0 0 (MQ below (QT (po_X12_next kp L f0 h0) G cI cJ cZ cD cR cT A kp L) ([.ref h0] : List Value).toArray s 0 0 A) (F0 m 243 ls []) := by
                  intro f696 y702 m697 m698 m699 m700 m701 m703 b704 v705 H locs ls hW hF hl
                  have L728 : ∀ (n : Nat), ∀ (f719 : Nat → va_E) (y724 : Int32) (m720 : oR (f719 h0) 11 = a95) (m721 : oI (f719 h0) 12 = pF12) (m722 : oI (f719 h0) 13 = y45) (m723 : oI (f719 h0) 15 = 1) (m725 : oI (f719 h0) 14 = y724) (b726 : (0 : Int) ≤ y724.toInt ∧ y724.toInt ≤ 400) (v727 : y724.toInt ≤ pF12.toInt) (hm : (1 : Int) ≤ n) (H : Heap) (locs : List Loc) (ls : Array Slot), WS G cI cJ cZ cD cR cT A kp L f719 s H locs → FM kp L ms_X12_next f0 f719 → lv_has ls 1 [(0, .ref h0)] → W p l e ({ frames := 2, cells := 0, slots := 0, locals := 60 }) s m ([.ref h0] : List Value).toArray below meth c H locs 0 0 (MQ below (QT (po_X12_next kp L f0 h0) G cI cJ cZ cD cR cT A kp L) ([.ref h0] : List Value).toArray s 0 0 A) (F0 m 243 ls []) := by
                    intro n
                    induction n with
                    | zero =>
                      intro f719 y724 m720 m721 m722 m723 m725 b726 v727 hm H locs ls hW hF hl
                      exfalso; omega
                    | succ n ih =>
                      intro f719 y724 m720 m721 m722 m723 m725 b726 v727 hm H locs ls hW hF hl
                      have ih243 := ih
                      refine lv_aload_n hx hb dX12_next_243 rfl (lv_at hl 0 rfl) ?_
                      refine fg_RX12_212 E hW rh0 dX12_next_244 (fun y729 m730 b731 => ?_)
                      obtain rfl : 1 = y729 := (m723).symm.trans m730
                      refine lv_iconst (v := 2) hx hb dX12_next_247 (by decide) ?_
                      refine q_icmp_ne (X := 1) (Y := 2) (tgt := 335) hx hb dX12_next_248 (by decide) rfl rfl (fun _ => ?_) (fun c => absurd c (by decide))
                      exact e_V E hW rfl ⟨rfl, hF⟩ dX12_next_335
                  exact L728 1 f696 y702 m697 m698 m699 m701 m703 (by first | omega | decide | trivial) (by omega) (by omega) _ _ _ hW hF (lv_sub hl [0] rfl)
                refine q_icmp_ge (tgt := 243) hx hb dX12_next_165 (by decide) rfl rfl (fun c732 => ?_) (fun c732 => ?_)
                · exact J706 f603 y608 m604 m620 m606 m617 m614 m617 (by first | omega | decide | trivial) (by omega) _ _ _ hW hF (lv_sub hl [0] rfl)
                · refine lv_aload_n hx hb dX12_next_168 rfl (lv_at hl 0 rfl) ?_
                  refine fg_RX12_32 E hW rh0 dX12_next_169 (fun a733 m734 r735 => ?_)
                  obtain rfl : a95 = a733 := (m604).symm.trans m734
                  refine lv_aload_n hx hb dX12_next_172 rfl (lv_at hl 0 rfl) ?_
                  refine fg_RX12_190 E hW rh0 dX12_next_173 (fun y736 m737 b738 => ?_)
                  obtain rfl : y608 = y736 := (m617).symm.trans m737
                  refine gl_831 E hW r97 ⟨by omega, by omega⟩ dX12_next_176 (fun y739 m740 => ?_)
                  refine t_callS (As := [.int y739]) (rest := []) E hW (c_X12_isSmall l G cI cJ cZ cD cR cT kp L f603 hW.2.2.2 _ y739) wk_X12_isSmall tw_1777 rfl ⟨Nat.le_of_ble_eq_true rfl, Nat.le_of_ble_eq_true rfl⟩ ⟨rfl, rfl⟩ hl.1 rfl (Nat.le_of_ble_eq_true rfl) dX12_next_177 ⟨Nat.le_of_ble_eq_true rfl, Nat.le_of_ble_eq_true rfl⟩ (fun v742 f743 H locs q744 hW => ?_)
                  obtain ⟨⟨x746, rfl, p747⟩, g745⟩ := q744
                  have hF := FM.tr hF g745 rfl
                  refine q_if_eq (tgt := 243) hx hb dX12_next_180 (by decide) rfl (fun c748 => ?_) (fun c748 => ?_)
                  · exact J706 f743 y608 ((fm_R g745 rh0 rfl).trans m734) ((fm_I g745 rh0 rfl).trans m620) ((fm_I g745 rh0 rfl).trans m606) ((fm_I g745 rh0 rfl).trans m737) ((fm_I g745 rh0 rfl).trans m614) ((fm_I g745 rh0 rfl).trans m737) (by first | omega | decide | trivial) (by omega) _ _ _ hW hF (lv_sub hl [0] rfl)
                  · refine lv_aload_n hx hb dX12_next_183 rfl (lv_at hl 0 rfl) ?_
                    refine lv_aload_n hx hb dX12_next_184 rfl (lv_at hl 0 rfl) ?_
                    refine fg_RX12_190 E hW rh0 dX12_next_185 (fun y749 m750 b751 => ?_)
                    obtain rfl : y608 = y749 := (((fm_I g745 rh0 rfl).trans m737)).symm.trans m750
                    refine lv_aload_n hx hb dX12_next_188 rfl (lv_at hl 0 rfl) ?_
                    refine fg_RX12_199 E hW rh0 dX12_next_189 (fun y752 m753 b754 => ?_)
                    obtain rfl : y45 = y752 := (((fm_I g745 rh0 rfl).trans m606)).symm.trans m753
                    refine q_isub hx hb dX12_next_192 rfl rfl (by omega) (fun x755 h756 => ?_)
                    refine lv_bipush (v := 10) hx hb dX12_next_193 (by decide) ?_
                    have J775 : ∀ (y774 : Int64) (H : Heap) (locs : List Loc) (ls : Array Slot), WS G cI cJ cZ cD cR cT A kp L f743 s H locs → FM kp L ms_X12_next f0 f743 → lv_has ls 1 [(0, .ref h0)] → W p l e ({ frames := 2, cells := 0, slots := 0, locals := 60 }) s m ([.ref h0] : List Value).toArray below meth c H locs 0 0 (MQ below (QT (po_X12_next kp L f0 h0) G cI cJ cZ cD cR cT A kp L) ([.ref h0] : List Value).toArray s 0 0 A) (F0 m 227 ls [.long y774, .ref h0]) := by
                      intro y774 H locs ls hW hF hl
                      clear p747 c748
                      refine fp_RX12_202 E hW rh0 dX12_next_227 (fun f776 H locs e777 n778 g779 hW => ?_)
                      have hF := FM.tr hF g779 rfl
                      refine lv_aload_n hx hb dX12_next_230 rfl (lv_at hl 0 rfl) ?_
                      refine lv_dup hx hb dX12_next_231 rfl ?_
                      refine fg_RX12_190 E hW rh0 dX12_next_232 (fun y780 m781 b782 => ?_)
                      obtain rfl : y608 = y780 := (((fm_I g779 rh0 rfl).trans m750)).symm.trans m781
                      refine lv_iconst (v := 1) hx hb dX12_next_235 (by decide) ?_
                      refine q_iadd (Y := 1) hx hb dX12_next_236 rfl rfl (by omega) (fun x783 h784 => ?_)
                      refine fp_RX12_190 E hW rh0 (by omega) dX12_next_237 (fun f785 H locs e786 n787 g788 hW => ?_)
                      have hF := FM.tr hF g788 rfl
                      refine lv_goto (tgt := 149) hx hb dX12_next_240 (by decide) ?_
                      exact ih149 f785 x783 ((fm_R g788 rh0 rfl).trans ((fm_R g779 rh0 rfl).trans ((fm_R g745 rh0 rfl).trans m734))) ((fm_I g788 rh0 rfl).trans ((fm_I g779 rh0 rfl).trans ((fm_I g745 rh0 rfl).trans m620))) ((fm_I g788 rh0 rfl).trans ((fm_I g779 rh0 rfl).trans m753)) ((fm_I g788 rh0 rfl).trans ((fm_I g779 rh0 rfl).trans ((fm_I g745 rh0 rfl).trans m614))) e786 (by first | omega | decide | trivial) (by omega) (by omega) _ _ _ hW hF (lv_sub hl [0] rfl)
                    refine q_icmp_ge (Y := 10) (tgt := 224) hx hb dX12_next_195 (by decide) rfl rfl (fun c789 => ?_) (fun c789 => ?_)
                    · refine lv_ldc2 (v := (-1)) hx hb hown (hts _ tw_1785) dX12_next_224 ?_
                      exact J775 (-1)  _ _ _ hW hF (lv_sub hl [0] rfl)
                    · refine lv_aload_n hx hb dX12_next_198 rfl (lv_at hl 0 rfl) ?_
                      refine fg_RX12_202 E hW rh0 dX12_next_199 (fun y790 m791 => ?_)
                      refine lv_ldc2 (v := 32) hx hb hown (hts _ tw_1783) dX12_next_202 ?_
                      refine u_lmul hx hb dX12_next_205 (fun x792 => ?_)
                      refine lv_aload_n hx hb dX12_next_206 rfl (lv_at hl 0 rfl) ?_
                      refine fg_RX12_32 E hW rh0 dX12_next_207 (fun a793 m794 r795 => ?_)
                      obtain rfl : a95 = a793 := (((fm_R g745 rh0 rfl).trans m734)).symm.trans m794
                      refine lv_aload_n hx hb dX12_next_210 rfl (lv_at hl 0 rfl) ?_
                      refine fg_RX12_190 E hW rh0 dX12_next_211 (fun y796 m797 b798 => ?_)
                      obtain rfl : y608 = y796 := (m750).symm.trans m797
                      refine gl_831 E hW r97 ⟨by omega, by omega⟩ dX12_next_214 (fun y799 m800 => ?_)
                      obtain rfl : y739 = y799 := (((congrArg (fun z => aI z (y608 : Int32).toNatClampNeg) (fm_A g745 r97 (by decide) rfl)).trans m740)).symm.trans m800
                      refine q_i2l hx hb dX12_next_215 rfl (fun x802 h803 => ?_)
                      have hb804 : -2147483648 ≤ x802.toInt ∧ x802.toInt ≤ 2147483647 := by have := i32_b y739; omega
                      refine u_ladd hx hb dX12_next_216 (fun x805 => ?_)
                      refine lv_ldc2 (v := 96) hx hb hown (hts _ tw_1784) dX12_next_217 ?_
                      refine u_lsub hx hb dX12_next_220 (fun x806 => ?_)
                      refine lv_goto (tgt := 227) hx hb dX12_next_221 (by decide) ?_
                      exact J775 x806  _ _ _ hW hF (lv_sub hl [0] rfl)
            exact L612 401 f503 y45 ((fm_R g506 rh0 rfl).trans ((fm_R g107 rh0 rfl).trans m96)) ((fm_I g506 rh0 rfl).trans ((fm_I g107 rh0 rfl).trans m92)) ((fm_I g506 rh0 rfl).trans ((fm_I g107 rh0 rfl).trans m99)) m508 ((fm_I g506 rh0 rfl).trans ((fm_I g107 rh0 rfl).trans ((fm_I g87 rh0 rfl).trans e81))) (by first | omega | decide | trivial) (by omega) (by omega) _ _ _ hW hF (lv_sub hl [0] rfl)
        · refine lv_iconst (v := 0) hx hb dX12_next_71 (by decide) ?_
          refine lv_goto (tgt := 114) hx hb dX12_next_72 (by decide) ?_
          refine fp_RX12_212 E hW rh0 (by decide) dX12_next_114 (fun f807 H locs e808 n809 g810 hW => ?_)
          have hF := FM.tr hF g810 rfl
          refine lv_aload_n hx hb dX12_next_117 rfl (lv_at hl 0 rfl) ?_
          refine fg_RX12_212 E hW rh0 dX12_next_118 (fun y811 m812 b813 => ?_)
          obtain rfl : 0 = y811 := (e808).symm.trans m812
          refine lv_iconst (v := 3) hx hb dX12_next_121 (by decide) ?_
          refine q_icmp_ne (X := 0) (Y := 3) (tgt := 149) hx hb dX12_next_122 (by decide) rfl rfl (fun _ => ?_) (fun c => absurd c (by decide))
          have L833 : ∀ (n : Nat), ∀ (f825 : Nat → va_E) (y829 : Int32) (m826 : oI (f825 h0) 12 = pF12) (m827 : oI (f825 h0) 13 = y45) (m828 : oI (f825 h0) 15 = 0) (m830 : oI (f825 h0) 14 = y829) (b831 : (0 : Int) ≤ y829.toInt ∧ y829.toInt ≤ 400) (v832 : y829.toInt ≤ pF12.toInt) (hm : (1 : Int) ≤ n) (H : Heap) (locs : List Loc) (ls : Array Slot), WS G cI cJ cZ cD cR cT A kp L f825 s H locs → FM kp L ms_X12_next f0 f825 → lv_has ls 1 [(0, .ref h0)] → W p l e ({ frames := 2, cells := 0, slots := 0, locals := 60 }) s m ([.ref h0] : List Value).toArray below meth c H locs 0 0 (MQ below (QT (po_X12_next kp L f0 h0) G cI cJ cZ cD cR cT A kp L) ([.ref h0] : List Value).toArray s 0 0 A) (F0 m 149 ls []) := by
            intro n
            induction n with
            | zero =>
              intro f825 y829 m826 m827 m828 m830 b831 v832 hm H locs ls hW hF hl
              exfalso; omega
            | succ n ih =>
              intro f825 y829 m826 m827 m828 m830 b831 v832 hm H locs ls hW hF hl
              have ih149 := ih
              refine lv_aload_n hx hb dX12_next_149 rfl (lv_at hl 0 rfl) ?_
              refine fg_RX12_212 E hW rh0 dX12_next_150 (fun y834 m835 b836 => ?_)
              obtain rfl : 0 = y834 := (m828).symm.trans m835
              refine lv_iconst (v := 1) hx hb dX12_next_153 (by decide) ?_
              refine q_icmp_ne (X := 0) (Y := 1) (tgt := 243) hx hb dX12_next_154 (by decide) rfl rfl (fun _ => ?_) (fun c => absurd c (by decide))
              have L856 : ∀ (n : Nat), ∀ (f848 : Nat → va_E) (y852 : Int32) (m849 : oI (f848 h0) 12 = pF12) (m850 : oI (f848 h0) 13 = y45) (m851 : oI (f848 h0) 15 = 0) (m853 : oI (f848 h0) 14 = y852) (b854 : (0 : Int) ≤ y852.toInt ∧ y852.toInt ≤ 400) (v855 : y852.toInt ≤ pF12.toInt) (hm : (1 : Int) ≤ n) (H : Heap) (locs : List Loc) (ls : Array Slot), WS G cI cJ cZ cD cR cT A kp L f848 s H locs → FM kp L ms_X12_next f0 f848 → lv_has ls 1 [(0, .ref h0)] → W p l e ({ frames := 2, cells := 0, slots := 0, locals := 60 }) s m ([.ref h0] : List Value).toArray below meth c H locs 0 0 (MQ below (QT (po_X12_next kp L f0 h0) G cI cJ cZ cD cR cT A kp L) ([.ref h0] : List Value).toArray s 0 0 A) (F0 m 243 ls []) := by
                intro n
                induction n with
                | zero =>
                  intro f848 y852 m849 m850 m851 m853 b854 v855 hm H locs ls hW hF hl
                  exfalso; omega
                | succ n ih =>
                  intro f848 y852 m849 m850 m851 m853 b854 v855 hm H locs ls hW hF hl
                  have ih243 := ih
                  refine lv_aload_n hx hb dX12_next_243 rfl (lv_at hl 0 rfl) ?_
                  refine fg_RX12_212 E hW rh0 dX12_next_244 (fun y857 m858 b859 => ?_)
                  obtain rfl : 0 = y857 := (m851).symm.trans m858
                  refine lv_iconst (v := 2) hx hb dX12_next_247 (by decide) ?_
                  refine q_icmp_ne (X := 0) (Y := 2) (tgt := 335) hx hb dX12_next_248 (by decide) rfl rfl (fun _ => ?_) (fun c => absurd c (by decide))
                  exact e_V E hW rfl ⟨rfl, hF⟩ dX12_next_335
              exact L856 1 f825 y829 m826 m827 m835 m830 (by first | omega | decide | trivial) (by omega) (by omega) _ _ _ hW hF (lv_sub hl [0] rfl)
          exact L833 1 f807 y45 ((fm_I g810 rh0 rfl).trans m92) ((fm_I g810 rh0 rfl).trans m89) m812 ((fm_I g810 rh0 rfl).trans ((fm_I g87 rh0 rfl).trans e81)) (by first | omega | decide | trivial) (by omega) (by omega) _ _ _ hW hF (lv_sub hl [0] rfl)
      refine q_icmp_ge (tgt := 46) hx hb dX12_next_16 (by decide) rfl rfl (fun c860 => ?_) (fun c860 => ?_)
      · exact J76   _ _ _ hW hF (lv_sub hl [0] rfl)
      · refine lv_aload_n hx hb dX12_next_19 rfl (lv_at hl 0 rfl) ?_
        refine fg_RX12_32 E hW rh0 dX12_next_20 (fun a861 m862 r863 => ?_)
        refine lv_aload_n hx hb dX12_next_23 rfl (lv_at hl 0 rfl) ?_
        refine fg_RX12_199 E hW rh0 dX12_next_24 (fun y864 m865 b866 => ?_)
        obtain rfl : y45 = y864 := (m52).symm.trans m865
        refine gl_831 E hW r863 ⟨by omega, by omega⟩ dX12_next_27 (fun y867 m868 => ?_)
        refine lv_bipush (v := 32) hx hb dX12_next_28 (by decide) ?_
        refine q_icmp_ne (Y := 32) (tgt := 46) hx hb dX12_next_30 (by decide) rfl rfl (fun c870 => ?_) (fun c870 => ?_)
        · exact J76   _ _ _ hW hF (lv_sub hl [0] rfl)
        · refine lv_aload_n hx hb dX12_next_33 rfl (lv_at hl 0 rfl) ?_
          refine lv_dup hx hb dX12_next_34 rfl ?_
          refine fg_RX12_199 E hW rh0 dX12_next_35 (fun y871 m872 b873 => ?_)
          obtain rfl : y45 = y871 := (m865).symm.trans m872
          refine lv_iconst (v := 1) hx hb dX12_next_38 (by decide) ?_
          refine q_iadd (Y := 1) hx hb dX12_next_39 rfl rfl (by omega) (fun x874 h875 => ?_)
          refine fp_RX12_199 E hW rh0 (by omega) dX12_next_40 (fun f876 H locs e877 n878 g879 hW => ?_)
          have hF := FM.tr hF g879 rfl
          refine lv_goto (tgt := 8) hx hb dX12_next_43 (by decide) ?_
          exact ih8 f876 x874 ((fm_I g879 rh0 rfl).trans m55) ((fm_I g879 rh0 rfl).trans m44) e877 (by first | omega | decide | trivial) (by omega) (by omega) (by omega) _ _ _ hW hF (lv_sub hl [0] rfl)
  exact L50 401 f4 pF14 ((fm_I g7 rh0 rfl).trans mF12) ((fm_I g7 rh0 rfl).trans m2) e5 (by first | omega | decide | trivial) (by omega) (by omega) (by omega) _ _ _ hW hF (lv_sub hl [0] rfl)
