theorem dX12_keepPaper_0 : decode cX12_keepPaper 0 = .ok (.iconst 0, 1) := by decide +kernel
theorem dX12_keepPaper_1 : decode cX12_keepPaper 1 = .ok (.istore_n 1, 1) := by decide +kernel
theorem dX12_keepPaper_2 : decode cX12_keepPaper 2 = .ok (.iload_n 1, 1) := by decide +kernel
theorem dX12_keepPaper_3 : decode cX12_keepPaper 3 = .ok (.ldc 7, 2) := by decide +kernel
theorem dX12_keepPaper_5 : decode cX12_keepPaper 5 = .ok (.if_icmp .ge 21, 3) := by decide +kernel
theorem dX12_keepPaper_26 : decode cX12_keepPaper 26 = .ok (.return_, 1) := by decide +kernel
theorem dX12_keepPaper_8 : decode cX12_keepPaper 8 = .ok (.aload_n 0, 1) := by decide +kernel
theorem dX12_keepPaper_9 : decode cX12_keepPaper 9 = .ok (.getfield 18, 3) := by decide +kernel
theorem dX12_keepPaper_12 : decode cX12_keepPaper 12 = .ok (.iload_n 1, 1) := by decide +kernel
theorem dX12_keepPaper_13 : decode cX12_keepPaper 13 = .ok (.aload_n 0, 1) := by decide +kernel
theorem dX12_keepPaper_14 : decode cX12_keepPaper 14 = .ok (.getfield 8, 3) := by decide +kernel
theorem dX12_keepPaper_17 : decode cX12_keepPaper 17 = .ok (.iload_n 1, 1) := by decide +kernel
theorem dX12_keepPaper_18 : decode cX12_keepPaper 18 = .ok (.iaload, 1) := by decide +kernel
theorem dX12_keepPaper_19 : decode cX12_keepPaper 19 = .ok (.iastore, 1) := by decide +kernel
theorem dX12_keepPaper_20 : decode cX12_keepPaper 20 = .ok (.iinc 1 1, 3) := by decide +kernel
theorem dX12_keepPaper_23 : decode cX12_keepPaper 23 = .ok (.goto (-21), 3) := by decide +kernel
theorem dX12_putBack_0 : decode cX12_putBack 0 = .ok (.iconst 0, 1) := by decide +kernel
theorem dX12_putBack_1 : decode cX12_putBack 1 = .ok (.istore_n 1, 1) := by decide +kernel
theorem dX12_putBack_2 : decode cX12_putBack 2 = .ok (.iload_n 1, 1) := by decide +kernel
theorem dX12_putBack_3 : decode cX12_putBack 3 = .ok (.ldc 7, 2) := by decide +kernel
theorem dX12_putBack_5 : decode cX12_putBack 5 = .ok (.if_icmp .ge 21, 3) := by decide +kernel
theorem dX12_putBack_26 : decode cX12_putBack 26 = .ok (.return_, 1) := by decide +kernel
theorem dX12_putBack_8 : decode cX12_putBack 8 = .ok (.aload_n 0, 1) := by decide +kernel
theorem dX12_putBack_9 : decode cX12_putBack 9 = .ok (.getfield 8, 3) := by decide +kernel
theorem dX12_putBack_12 : decode cX12_putBack 12 = .ok (.iload_n 1, 1) := by decide +kernel
theorem dX12_putBack_13 : decode cX12_putBack 13 = .ok (.aload_n 0, 1) := by decide +kernel
theorem dX12_putBack_14 : decode cX12_putBack 14 = .ok (.getfield 18, 3) := by decide +kernel
theorem dX12_putBack_17 : decode cX12_putBack 17 = .ok (.iload_n 1, 1) := by decide +kernel
theorem dX12_putBack_18 : decode cX12_putBack 18 = .ok (.iaload, 1) := by decide +kernel
theorem dX12_putBack_19 : decode cX12_putBack 19 = .ok (.iastore, 1) := by decide +kernel
theorem dX12_putBack_20 : decode cX12_putBack 20 = .ok (.iinc 1 1, 3) := by decide +kernel
theorem dX12_putBack_23 : decode cX12_putBack 23 = .ok (.goto (-21), 3) := by decide +kernel
theorem dX12_image_0 : decode cX12_image 0 = .ok (.aload_n 0, 1) := by decide +kernel
theorem dX12_image_1 : decode cX12_image 1 = .ok (.iconst 0, 1) := by decide +kernel
theorem dX12_image_2 : decode cX12_image 2 = .ok (.putfield 82, 3) := by decide +kernel
theorem dX12_image_5 : decode cX12_image 5 = .ok (.iload_n 1, 1) := by decide +kernel
theorem dX12_image_6 : decode cX12_image 6 = .ok (.i2l, 1) := by decide +kernel
theorem dX12_image_7 : decode cX12_image 7 = .ok (.lconst 0, 1) := by decide +kernel
theorem dX12_image_8 : decode cX12_image 8 = .ok (.lconst 1, 1) := by decide +kernel
theorem dX12_image_9 : decode cX12_image 9 = .ok (.invokestatic 90, 3) := by decide +kernel
theorem dX12_image_12 : decode cX12_image 12 = .ok (.ifCond .ne 9, 3) := by decide +kernel
theorem dX12_image_21 : decode cX12_image 21 = .ok (.iconst 0, 1) := by decide +kernel
theorem dX12_image_22 : decode cX12_image 22 = .ok (.istore_n 2, 1) := by decide +kernel
theorem dX12_image_23 : decode cX12_image 23 = .ok (.iload_n 2, 1) := by decide +kernel
theorem dX12_image_24 : decode cX12_image 24 = .ok (.ldc 7, 2) := by decide +kernel
theorem dX12_image_26 : decode cX12_image 26 = .ok (.if_icmp .ge 26, 3) := by decide +kernel
theorem dX12_image_52 : decode cX12_image 52 = .ok (.aload_n 0, 1) := by decide +kernel
theorem dX12_image_53 : decode cX12_image 53 = .ok (.getfield 21, 3) := by decide +kernel
theorem dX12_image_56 : decode cX12_image 56 = .ok (.iload_n 1, 1) := by decide +kernel
theorem dX12_image_57 : decode cX12_image 57 = .ok (.iconst 1, 1) := by decide +kernel
theorem dX12_image_58 : decode cX12_image 58 = .ok (.bastore, 1) := by decide +kernel
theorem dX12_image_59 : decode cX12_image 59 = .ok (.aload_n 0, 1) := by decide +kernel
theorem dX12_image_60 : decode cX12_image 60 = .ok (.iconst 0, 1) := by decide +kernel
theorem dX12_image_61 : decode cX12_image 61 = .ok (.invokevirtual 94, 3) := by decide +kernel
theorem dX12_image_64 : decode cX12_image 64 = .ok (.ireturn, 1) := by decide +kernel
theorem dX12_image_29 : decode cX12_image 29 = .ok (.aload_n 0, 1) := by decide +kernel
theorem dX12_image_30 : decode cX12_image 30 = .ok (.getfield 15, 3) := by decide +kernel
theorem dX12_image_33 : decode cX12_image 33 = .ok (.ldc 7, 2) := by decide +kernel
theorem dX12_image_35 : decode cX12_image 35 = .ok (.iload_n 1, 1) := by decide +kernel
theorem dX12_image_36 : decode cX12_image 36 = .ok (.imul, 1) := by decide +kernel
theorem dX12_image_37 : decode cX12_image 37 = .ok (.iload_n 2, 1) := by decide +kernel
theorem dX12_image_38 : decode cX12_image 38 = .ok (.iadd, 1) := by decide +kernel
theorem dX12_image_39 : decode cX12_image 39 = .ok (.aload_n 0, 1) := by decide +kernel
theorem dX12_image_40 : decode cX12_image 40 = .ok (.getfield 8, 3) := by decide +kernel
theorem dX12_image_43 : decode cX12_image 43 = .ok (.iload_n 2, 1) := by decide +kernel
theorem dX12_image_44 : decode cX12_image 44 = .ok (.iaload, 1) := by decide +kernel
theorem dX12_image_45 : decode cX12_image 45 = .ok (.iastore, 1) := by decide +kernel
theorem dX12_image_46 : decode cX12_image 46 = .ok (.iinc 2 1, 3) := by decide +kernel
theorem dX12_image_49 : decode cX12_image 49 = .ok (.goto (-26), 3) := by decide +kernel
theorem dX12_image_15 : decode cX12_image 15 = .ok (.aload_n 0, 1) := by decide +kernel
theorem dX12_image_16 : decode cX12_image 16 = .ok (.iconst (-1), 1) := by decide +kernel
theorem dX12_image_17 : decode cX12_image 17 = .ok (.invokevirtual 94, 3) := by decide +kernel
theorem dX12_image_20 : decode cX12_image 20 = .ok (.ireturn, 1) := by decide +kernel
theorem dX12_back_0 : decode cX12_back 0 = .ok (.aload_n 0, 1) := by decide +kernel
theorem dX12_back_1 : decode cX12_back 1 = .ok (.iconst 0, 1) := by decide +kernel
theorem dX12_back_2 : decode cX12_back 2 = .ok (.putfield 82, 3) := by decide +kernel
theorem dX12_back_5 : decode cX12_back 5 = .ok (.iload_n 1, 1) := by decide +kernel
theorem dX12_back_6 : decode cX12_back 6 = .ok (.i2l, 1) := by decide +kernel
theorem dX12_back_7 : decode cX12_back 7 = .ok (.lconst 0, 1) := by decide +kernel
theorem dX12_back_8 : decode cX12_back 8 = .ok (.lconst 1, 1) := by decide +kernel
theorem dX12_back_9 : decode cX12_back 9 = .ok (.invokestatic 90, 3) := by decide +kernel
theorem dX12_back_12 : decode cX12_back 12 = .ok (.ifCond .ne 9, 3) := by decide +kernel
theorem dX12_back_21 : decode cX12_back 21 = .ok (.aload_n 0, 1) := by decide +kernel
theorem dX12_back_22 : decode cX12_back 22 = .ok (.getfield 21, 3) := by decide +kernel
theorem dX12_back_25 : decode cX12_back 25 = .ok (.iload_n 1, 1) := by decide +kernel
theorem dX12_back_26 : decode cX12_back 26 = .ok (.baload, 1) := by decide +kernel
theorem dX12_back_27 : decode cX12_back 27 = .ok (.ifCond .ne 10, 3) := by decide +kernel
theorem dX12_back_37 : decode cX12_back 37 = .ok (.iconst 0, 1) := by decide +kernel
theorem dX12_back_38 : decode cX12_back 38 = .ok (.istore_n 2, 1) := by decide +kernel
theorem dX12_back_39 : decode cX12_back 39 = .ok (.iload_n 2, 1) := by decide +kernel
theorem dX12_back_40 : decode cX12_back 40 = .ok (.ldc 7, 2) := by decide +kernel
theorem dX12_back_42 : decode cX12_back 42 = .ok (.if_icmp .ge 26, 3) := by decide +kernel
theorem dX12_back_68 : decode cX12_back 68 = .ok (.aload_n 0, 1) := by decide +kernel
theorem dX12_back_69 : decode cX12_back 69 = .ok (.iconst 0, 1) := by decide +kernel
theorem dX12_back_70 : decode cX12_back 70 = .ok (.invokevirtual 94, 3) := by decide +kernel
theorem dX12_back_73 : decode cX12_back 73 = .ok (.ireturn, 1) := by decide +kernel
theorem dX12_back_45 : decode cX12_back 45 = .ok (.aload_n 0, 1) := by decide +kernel
theorem dX12_back_46 : decode cX12_back 46 = .ok (.getfield 8, 3) := by decide +kernel
theorem dX12_back_49 : decode cX12_back 49 = .ok (.iload_n 2, 1) := by decide +kernel
theorem dX12_back_50 : decode cX12_back 50 = .ok (.aload_n 0, 1) := by decide +kernel
theorem dX12_back_51 : decode cX12_back 51 = .ok (.getfield 15, 3) := by decide +kernel
theorem dX12_back_54 : decode cX12_back 54 = .ok (.ldc 7, 2) := by decide +kernel
theorem dX12_back_56 : decode cX12_back 56 = .ok (.iload_n 1, 1) := by decide +kernel
theorem dX12_back_57 : decode cX12_back 57 = .ok (.imul, 1) := by decide +kernel
theorem dX12_back_58 : decode cX12_back 58 = .ok (.iload_n 2, 1) := by decide +kernel
theorem dX12_back_59 : decode cX12_back 59 = .ok (.iadd, 1) := by decide +kernel
theorem dX12_back_60 : decode cX12_back 60 = .ok (.iaload, 1) := by decide +kernel
theorem dX12_back_61 : decode cX12_back 61 = .ok (.iastore, 1) := by decide +kernel
theorem dX12_back_62 : decode cX12_back 62 = .ok (.iinc 2 1, 3) := by decide +kernel
theorem dX12_back_65 : decode cX12_back 65 = .ok (.goto (-26), 3) := by decide +kernel
theorem dX12_back_30 : decode cX12_back 30 = .ok (.aload_n 0, 1) := by decide +kernel
theorem dX12_back_31 : decode cX12_back 31 = .ok (.bipush (-2), 2) := by decide +kernel
theorem dX12_back_33 : decode cX12_back 33 = .ok (.invokevirtual 94, 3) := by decide +kernel
theorem dX12_back_36 : decode cX12_back 36 = .ok (.ireturn, 1) := by decide +kernel
theorem dX12_back_15 : decode cX12_back 15 = .ok (.aload_n 0, 1) := by decide +kernel
theorem dX12_back_16 : decode cX12_back 16 = .ok (.iconst (-1), 1) := by decide +kernel
theorem dX12_back_17 : decode cX12_back 17 = .ok (.invokevirtual 94, 3) := by decide +kernel
theorem dX12_back_20 : decode cX12_back 20 = .ok (.ireturn, 1) := by decide +kernel
theorem dX12_least_0 : decode cX12_least 0 = .ok (.aload_n 0, 1) := by decide +kernel
theorem dX12_least_1 : decode cX12_least 1 = .ok (.iconst 0, 1) := by decide +kernel
theorem dX12_least_2 : decode cX12_least 2 = .ok (.putfield 82, 3) := by decide +kernel
theorem dX12_least_5 : decode cX12_least 5 = .ok (.aload_n 0, 1) := by decide +kernel
theorem dX12_least_6 : decode cX12_least 6 = .ok (.getfield 8, 3) := by decide +kernel
theorem dX12_least_9 : decode cX12_least 9 = .ok (.bipush 8, 2) := by decide +kernel
theorem dX12_least_11 : decode cX12_least 11 = .ok (.iaload, 1) := by decide +kernel
theorem dX12_least_12 : decode cX12_least 12 = .ok (.bipush 13, 2) := by decide +kernel
theorem dX12_least_14 : decode cX12_least 14 = .ok (.idiv, 1) := by decide +kernel
theorem dX12_least_15 : decode cX12_least 15 = .ok (.istore_n 3, 1) := by decide +kernel
theorem dX12_least_16 : decode cX12_least 16 = .ok (.aload_n 0, 1) := by decide +kernel
theorem dX12_least_17 : decode cX12_least 17 = .ok (.iload_n 1, 1) := by decide +kernel
theorem dX12_least_18 : decode cX12_least 18 = .ok (.invokevirtual 132, 3) := by decide +kernel
theorem dX12_least_21 : decode cX12_least 21 = .ok (.ifCond .eq 33, 3) := by decide +kernel
theorem dX12_least_54 : decode cX12_least 54 = .ok (.iconst (-1), 1) := by decide +kernel
theorem dX12_least_55 : decode cX12_least 55 = .ok (.ireturn, 1) := by decide +kernel
theorem dX12_least_24 : decode cX12_least 24 = .ok (.aload_n 0, 1) := by decide +kernel
theorem dX12_least_25 : decode cX12_least 25 = .ok (.getfield 8, 3) := by decide +kernel
theorem dX12_least_28 : decode cX12_least 28 = .ok (.iload_n 1, 1) := by decide +kernel
theorem dX12_least_29 : decode cX12_least 29 = .ok (.invokestatic 125, 3) := by decide +kernel
theorem dX12_least_32 : decode cX12_least 32 = .ok (.iconst 2, 1) := by decide +kernel
theorem dX12_least_33 : decode cX12_least 33 = .ok (.iadd, 1) := by decide +kernel
theorem dX12_least_34 : decode cX12_least 34 = .ok (.iaload, 1) := by decide +kernel
theorem dX12_least_35 : decode cX12_least 35 = .ok (.iconst (-1), 1) := by decide +kernel
theorem dX12_least_36 : decode cX12_least 36 = .ok (.if_icmp .ne 18, 3) := by decide +kernel
theorem dX12_least_39 : decode cX12_least 39 = .ok (.iload_n 2, 1) := by decide +kernel
theorem dX12_least_40 : decode cX12_least 40 = .ok (.i2l, 1) := by decide +kernel
theorem dX12_least_41 : decode cX12_least 41 = .ok (.iload_n 3, 1) := by decide +kernel
theorem dX12_least_42 : decode cX12_least 42 = .ok (.i2l, 1) := by decide +kernel
theorem dX12_least_43 : decode cX12_least 43 = .ok (.lsub, 1) := by decide +kernel
theorem dX12_least_44 : decode cX12_least 44 = .ok (.lconst 1, 1) := by decide +kernel
theorem dX12_least_45 : decode cX12_least 45 = .ok (.ldc2_w 494, 3) := by decide +kernel
theorem dX12_least_48 : decode cX12_least 48 = .ok (.invokestatic 90, 3) := by decide +kernel
theorem dX12_least_51 : decode cX12_least 51 = .ok (.ifCond .ne 5, 3) := by decide +kernel
theorem dX12_least_56 : decode cX12_least 56 = .ok (.aload_n 0, 1) := by decide +kernel
theorem dX12_least_57 : decode cX12_least 57 = .ok (.invokevirtual 147, 3) := by decide +kernel
theorem dX12_least_60 : decode cX12_least 60 = .ok (.iconst 0, 1) := by decide +kernel
theorem dX12_least_61 : decode cX12_least 61 = .ok (.istore 4, 2) := by decide +kernel
theorem dX12_least_63 : decode cX12_least 63 = .ok (.lconst 0, 1) := by decide +kernel
theorem dX12_least_64 : decode cX12_least 64 = .ok (.lstore 5, 2) := by decide +kernel
theorem dX12_least_66 : decode cX12_least 66 = .ok (.iconst 0, 1) := by decide +kernel
theorem dX12_least_67 : decode cX12_least 67 = .ok (.istore 7, 2) := by decide +kernel
theorem dX12_least_69 : decode cX12_least 69 = .ok (.iload 7, 2) := by decide +kernel
theorem dX12_least_71 : decode cX12_least 71 = .ok (.aload_n 0, 1) := by decide +kernel
theorem dX12_least_72 : decode cX12_least 72 = .ok (.getfield 8, 3) := by decide +kernel
theorem dX12_least_75 : decode cX12_least 75 = .ok (.iconst 2, 1) := by decide +kernel
theorem dX12_least_76 : decode cX12_least 76 = .ok (.iaload, 1) := by decide +kernel
theorem dX12_least_77 : decode cX12_least 77 = .ok (.if_icmp .ge 123, 3) := by decide +kernel
theorem dX12_least_200 : decode cX12_least 200 = .ok (.iconst 0, 1) := by decide +kernel
theorem dX12_least_201 : decode cX12_least 201 = .ok (.istore 7, 2) := by decide +kernel
theorem dX12_least_203 : decode cX12_least 203 = .ok (.iload 7, 2) := by decide +kernel
theorem dX12_least_205 : decode cX12_least 205 = .ok (.iload 4, 2) := by decide +kernel
theorem dX12_least_207 : decode cX12_least 207 = .ok (.if_icmp .gt 49, 3) := by decide +kernel
theorem dX12_least_256 : decode cX12_least 256 = .ok (.iconst (-1), 1) := by decide +kernel
theorem dX12_least_257 : decode cX12_least 257 = .ok (.ireturn, 1) := by decide +kernel
theorem dX12_least_210 : decode cX12_least 210 = .ok (.aload_n 0, 1) := by decide +kernel
theorem dX12_least_211 : decode cX12_least 211 = .ok (.iload_n 1, 1) := by decide +kernel
theorem dX12_least_212 : decode cX12_least 212 = .ok (.lload 5, 2) := by decide +kernel
theorem dX12_least_214 : decode cX12_least 214 = .ok (.iload_n 2, 1) := by decide +kernel
theorem dX12_least_215 : decode cX12_least 215 = .ok (.iload_n 3, 1) := by decide +kernel
theorem dX12_least_216 : decode cX12_least 216 = .ok (.isub, 1) := by decide +kernel
theorem dX12_least_217 : decode cX12_least 217 = .ok (.invokevirtual 496, 3) := by decide +kernel
theorem dX12_least_220 : decode cX12_least 220 = .ok (.ifCond .eq 6, 3) := by decide +kernel
theorem dX12_least_226 : decode cX12_least 226 = .ok (.lload 5, 2) := by decide +kernel
theorem dX12_least_228 : decode cX12_least 228 = .ok (.iload 7, 2) := by decide +kernel
theorem dX12_least_230 : decode cX12_least 230 = .ok (.iload 4, 2) := by decide +kernel
theorem dX12_least_232 : decode cX12_least 232 = .ok (.if_icmp .ge 14, 3) := by decide +kernel
theorem dX12_least_247 : decode cX12_least 247 = .ok (.lsub, 1) := by decide +kernel
theorem dX12_least_248 : decode cX12_least 248 = .ok (.lstore 5, 2) := by decide +kernel
theorem dX12_least_250 : decode cX12_least 250 = .ok (.iinc 7 1, 3) := by decide +kernel
theorem dX12_least_253 : decode cX12_least 253 = .ok (.goto (-50), 3) := by decide +kernel
theorem dX12_least_246 : decode cX12_least 246 = .ok (.lconst 0, 1) := by decide +kernel
theorem dX12_least_235 : decode cX12_least 235 = .ok (.aload_n 0, 1) := by decide +kernel
theorem dX12_least_236 : decode cX12_least 236 = .ok (.getfield 70, 3) := by decide +kernel
theorem dX12_least_239 : decode cX12_least 239 = .ok (.iload 7, 2) := by decide +kernel
theorem dX12_least_241 : decode cX12_least 241 = .ok (.iaload, 1) := by decide +kernel
theorem dX12_least_242 : decode cX12_least 242 = .ok (.i2l, 1) := by decide +kernel
theorem dX12_least_243 : decode cX12_least 243 = .ok (.goto 4, 3) := by decide +kernel
theorem dX12_least_223 : decode cX12_least 223 = .ok (.iload 7, 2) := by decide +kernel
theorem dX12_least_225 : decode cX12_least 225 = .ok (.ireturn, 1) := by decide +kernel
theorem dX12_least_80 : decode cX12_least 80 = .ok (.aload_n 0, 1) := by decide +kernel
theorem dX12_least_81 : decode cX12_least 81 = .ok (.getfield 8, 3) := by decide +kernel
theorem dX12_least_84 : decode cX12_least 84 = .ok (.iload 7, 2) := by decide +kernel
theorem dX12_least_86 : decode cX12_least 86 = .ok (.invokestatic 135, 3) := by decide +kernel
theorem dX12_least_89 : decode cX12_least 89 = .ok (.iaload, 1) := by decide +kernel
theorem dX12_least_90 : decode cX12_least 90 = .ok (.iload_n 1, 1) := by decide +kernel
theorem dX12_least_91 : decode cX12_least 91 = .ok (.if_icmp .ne 103, 3) := by decide +kernel
theorem dX12_least_194 : decode cX12_least 194 = .ok (.iinc 7 1, 3) := by decide +kernel
theorem dX12_least_197 : decode cX12_least 197 = .ok (.goto (-128), 3) := by decide +kernel
theorem dX12_least_94 : decode cX12_least 94 = .ok (.aload_n 0, 1) := by decide +kernel
theorem dX12_least_95 : decode cX12_least 95 = .ok (.getfield 8, 3) := by decide +kernel
theorem dX12_least_98 : decode cX12_least 98 = .ok (.iload 7, 2) := by decide +kernel
theorem dX12_least_100 : decode cX12_least 100 = .ok (.invokestatic 135, 3) := by decide +kernel
theorem dX12_least_103 : decode cX12_least 103 = .ok (.iconst 3, 1) := by decide +kernel
theorem dX12_least_104 : decode cX12_least 104 = .ok (.iadd, 1) := by decide +kernel
theorem dX12_least_105 : decode cX12_least 105 = .ok (.iaload, 1) := by decide +kernel
theorem dX12_least_106 : decode cX12_least 106 = .ok (.iconst (-1), 1) := by decide +kernel
theorem dX12_least_107 : decode cX12_least 107 = .ok (.if_icmp .eq 87, 3) := by decide +kernel
theorem dX12_least_110 : decode cX12_least 110 = .ok (.lload 5, 2) := by decide +kernel
theorem dX12_least_112 : decode cX12_least 112 = .ok (.aload_n 0, 1) := by decide +kernel
theorem dX12_least_113 : decode cX12_least 113 = .ok (.iload 7, 2) := by decide +kernel
theorem dX12_least_115 : decode cX12_least 115 = .ok (.invokevirtual 439, 3) := by decide +kernel
theorem dX12_least_118 : decode cX12_least 118 = .ok (.i2l, 1) := by decide +kernel
theorem dX12_least_119 : decode cX12_least 119 = .ok (.ladd, 1) := by decide +kernel
theorem dX12_least_120 : decode cX12_least 120 = .ok (.lstore 5, 2) := by decide +kernel
theorem dX12_least_122 : decode cX12_least 122 = .ok (.aload_n 0, 1) := by decide +kernel
theorem dX12_least_123 : decode cX12_least 123 = .ok (.iload 7, 2) := by decide +kernel
theorem dX12_least_125 : decode cX12_least 125 = .ok (.invokevirtual 439, 3) := by decide +kernel
theorem dX12_least_128 : decode cX12_least 128 = .ok (.aload_n 0, 1) := by decide +kernel
theorem dX12_least_129 : decode cX12_least 129 = .ok (.iload 7, 2) := by decide +kernel
theorem dX12_least_131 : decode cX12_least 131 = .ok (.invokevirtual 150, 3) := by decide +kernel
theorem dX12_least_134 : decode cX12_least 134 = .ok (.isub, 1) := by decide +kernel
theorem dX12_least_135 : decode cX12_least 135 = .ok (.istore 8, 2) := by decide +kernel
theorem dX12_least_137 : decode cX12_least 137 = .ok (.iload 4, 2) := by decide +kernel
theorem dX12_least_139 : decode cX12_least 139 = .ok (.istore 9, 2) := by decide +kernel
theorem dX12_least_141 : decode cX12_least 141 = .ok (.iload 9, 2) := by decide +kernel
theorem dX12_least_143 : decode cX12_least 143 = .ok (.ifCond .le 39, 3) := by decide +kernel
theorem dX12_least_182 : decode cX12_least 182 = .ok (.aload_n 0, 1) := by decide +kernel
theorem dX12_least_183 : decode cX12_least 183 = .ok (.getfield 70, 3) := by decide +kernel
theorem dX12_least_186 : decode cX12_least 186 = .ok (.iload 9, 2) := by decide +kernel
theorem dX12_least_188 : decode cX12_least 188 = .ok (.iload 8, 2) := by decide +kernel
theorem dX12_least_190 : decode cX12_least 190 = .ok (.iastore, 1) := by decide +kernel
theorem dX12_least_191 : decode cX12_least 191 = .ok (.iinc 4 1, 3) := by decide +kernel
theorem dX12_least_146 : decode cX12_least 146 = .ok (.aload_n 0, 1) := by decide +kernel
theorem dX12_least_147 : decode cX12_least 147 = .ok (.getfield 70, 3) := by decide +kernel
theorem dX12_least_150 : decode cX12_least 150 = .ok (.iload 9, 2) := by decide +kernel
theorem dX12_least_152 : decode cX12_least 152 = .ok (.iconst 1, 1) := by decide +kernel
theorem dX12_least_153 : decode cX12_least 153 = .ok (.isub, 1) := by decide +kernel
theorem dX12_least_154 : decode cX12_least 154 = .ok (.iaload, 1) := by decide +kernel
theorem dX12_least_155 : decode cX12_least 155 = .ok (.iload 8, 2) := by decide +kernel
theorem dX12_least_157 : decode cX12_least 157 = .ok (.if_icmp .ge 25, 3) := by decide +kernel
theorem dX12_least_160 : decode cX12_least 160 = .ok (.aload_n 0, 1) := by decide +kernel
theorem dX12_least_161 : decode cX12_least 161 = .ok (.getfield 70, 3) := by decide +kernel
theorem dX12_least_164 : decode cX12_least 164 = .ok (.iload 9, 2) := by decide +kernel
theorem dX12_least_166 : decode cX12_least 166 = .ok (.aload_n 0, 1) := by decide +kernel
theorem dX12_least_167 : decode cX12_least 167 = .ok (.getfield 70, 3) := by decide +kernel
theorem dX12_least_170 : decode cX12_least 170 = .ok (.iload 9, 2) := by decide +kernel
theorem dX12_least_172 : decode cX12_least 172 = .ok (.iconst 1, 1) := by decide +kernel
theorem dX12_least_173 : decode cX12_least 173 = .ok (.isub, 1) := by decide +kernel
theorem dX12_least_174 : decode cX12_least 174 = .ok (.iaload, 1) := by decide +kernel
theorem dX12_least_175 : decode cX12_least 175 = .ok (.iastore, 1) := by decide +kernel
theorem dX12_least_176 : decode cX12_least 176 = .ok (.iinc 9 (-1), 3) := by decide +kernel
theorem dX12_least_179 : decode cX12_least 179 = .ok (.goto (-38), 3) := by decide +kernel
theorem dX12_chests_0 : decode cX12_chests 0 = .ok (.iconst 0, 1) := by decide +kernel
theorem dX12_chests_1 : decode cX12_chests 1 = .ok (.istore_n 2, 1) := by decide +kernel
theorem dX12_chests_2 : decode cX12_chests 2 = .ok (.iload_n 2, 1) := by decide +kernel
theorem dX12_chests_3 : decode cX12_chests 3 = .ok (.iload_n 1, 1) := by decide +kernel
theorem dX12_chests_4 : decode cX12_chests 4 = .ok (.if_icmp .ge 13, 3) := by decide +kernel
theorem dX12_chests_17 : decode cX12_chests 17 = .ok (.lconst 0, 1) := by decide +kernel
theorem dX12_chests_18 : decode cX12_chests 18 = .ok (.lstore_n 2, 1) := by decide +kernel
theorem dX12_chests_19 : decode cX12_chests 19 = .ok (.iconst 0, 1) := by decide +kernel
theorem dX12_chests_20 : decode cX12_chests 20 = .ok (.istore 4, 2) := by decide +kernel
theorem dX12_chests_22 : decode cX12_chests 22 = .ok (.iload 4, 2) := by decide +kernel
theorem dX12_chests_24 : decode cX12_chests 24 = .ok (.aload_n 0, 1) := by decide +kernel
theorem dX12_chests_25 : decode cX12_chests 25 = .ok (.getfield 8, 3) := by decide +kernel
theorem dX12_chests_28 : decode cX12_chests 28 = .ok (.iconst 1, 1) := by decide +kernel
theorem dX12_chests_29 : decode cX12_chests 29 = .ok (.iaload, 1) := by decide +kernel
theorem dX12_chests_30 : decode cX12_chests 30 = .ok (.if_icmp .ge 23, 3) := by decide +kernel
theorem dX12_chests_53 : decode cX12_chests 53 = .ok (.lload_n 2, 1) := by decide +kernel
theorem dX12_chests_54 : decode cX12_chests 54 = .ok (.lreturn, 1) := by decide +kernel
theorem dX12_chests_33 : decode cX12_chests 33 = .ok (.lload_n 2, 1) := by decide +kernel
theorem dX12_chests_34 : decode cX12_chests 34 = .ok (.aload_n 0, 1) := by decide +kernel
theorem dX12_chests_35 : decode cX12_chests 35 = .ok (.getfield 8, 3) := by decide +kernel
theorem dX12_chests_38 : decode cX12_chests 38 = .ok (.iload 4, 2) := by decide +kernel
theorem dX12_chests_40 : decode cX12_chests 40 = .ok (.invokestatic 125, 3) := by decide +kernel
theorem dX12_chests_43 : decode cX12_chests 43 = .ok (.iaload, 1) := by decide +kernel
theorem dX12_chests_44 : decode cX12_chests 44 = .ok (.i2l, 1) := by decide +kernel
theorem dX12_chests_45 : decode cX12_chests 45 = .ok (.ladd, 1) := by decide +kernel
theorem dX12_chests_46 : decode cX12_chests 46 = .ok (.lstore_n 2, 1) := by decide +kernel
theorem dX12_chests_47 : decode cX12_chests 47 = .ok (.iinc 4 1, 3) := by decide +kernel
theorem dX12_chests_50 : decode cX12_chests 50 = .ok (.goto (-28), 3) := by decide +kernel
theorem dX12_chests_7 : decode cX12_chests 7 = .ok (.aload_n 0, 1) := by decide +kernel
theorem dX12_chests_8 : decode cX12_chests 8 = .ok (.invokevirtual 481, 3) := by decide +kernel
theorem dX12_chests_11 : decode cX12_chests 11 = .ok (.iinc 2 1, 3) := by decide +kernel
theorem dX12_chests_14 : decode cX12_chests 14 = .ok (.goto (-12), 3) := by decide +kernel
theorem dX12_worst_0 : decode cX12_worst 0 = .ok (.aload_n 0, 1) := by decide +kernel
theorem dX12_worst_1 : decode cX12_worst 1 = .ok (.iload_n 1, 1) := by decide +kernel
theorem dX12_worst_2 : decode cX12_worst 2 = .ok (.putfield 449, 3) := by decide +kernel
theorem dX12_worst_5 : decode cX12_worst 5 = .ok (.iconst 0, 1) := by decide +kernel
theorem dX12_worst_6 : decode cX12_worst 6 = .ok (.istore_n 3, 1) := by decide +kernel
theorem dX12_worst_7 : decode cX12_worst 7 = .ok (.aload_n 0, 1) := by decide +kernel
theorem dX12_worst_8 : decode cX12_worst 8 = .ok (.invokevirtual 507, 3) := by decide +kernel
theorem dX12_worst_11 : decode cX12_worst 11 = .ok (.aload_n 0, 1) := by decide +kernel
theorem dX12_worst_12 : decode cX12_worst 12 = .ok (.iconst 1, 1) := by decide +kernel
theorem dX12_worst_13 : decode cX12_worst 13 = .ok (.putfield 161, 3) := by decide +kernel
theorem dX12_worst_16 : decode cX12_worst 16 = .ok (.iconst 0, 1) := by decide +kernel
theorem dX12_worst_17 : decode cX12_worst 17 = .ok (.istore 4, 2) := by decide +kernel
theorem dX12_worst_19 : decode cX12_worst 19 = .ok (.iload 4, 2) := by decide +kernel
theorem dX12_worst_21 : decode cX12_worst 21 = .ok (.aload_n 0, 1) := by decide +kernel
theorem dX12_worst_22 : decode cX12_worst 22 = .ok (.getfield 504, 3) := by decide +kernel
theorem dX12_worst_25 : decode cX12_worst 25 = .ok (.if_icmp .ge 76, 3) := by decide +kernel
theorem dX12_worst_101 : decode cX12_worst 101 = .ok (.aload_n 0, 1) := by decide +kernel
theorem dX12_worst_102 : decode cX12_worst 102 = .ok (.iconst 0, 1) := by decide +kernel
theorem dX12_worst_103 : decode cX12_worst 103 = .ok (.putfield 161, 3) := by decide +kernel
theorem dX12_worst_106 : decode cX12_worst 106 = .ok (.iload_n 3, 1) := by decide +kernel
theorem dX12_worst_107 : decode cX12_worst 107 = .ok (.ireturn, 1) := by decide +kernel
theorem dX12_worst_28 : decode cX12_worst 28 = .ok (.aload_n 0, 1) := by decide +kernel
theorem dX12_worst_29 : decode cX12_worst 29 = .ok (.aload_n 0, 1) := by decide +kernel
theorem dX12_worst_30 : decode cX12_worst 30 = .ok (.getfield 76, 3) := by decide +kernel
theorem dX12_worst_33 : decode cX12_worst 33 = .ok (.iload 4, 2) := by decide +kernel
theorem dX12_worst_35 : decode cX12_worst 35 = .ok (.iaload, 1) := by decide +kernel
theorem dX12_worst_36 : decode cX12_worst 36 = .ok (.putfield 165, 3) := by decide +kernel
theorem dX12_worst_39 : decode cX12_worst 39 = .ok (.aload_n 0, 1) := by decide +kernel
theorem dX12_worst_40 : decode cX12_worst 40 = .ok (.aload_n 0, 1) := by decide +kernel
theorem dX12_worst_41 : decode cX12_worst 41 = .ok (.getfield 79, 3) := by decide +kernel
theorem dX12_worst_44 : decode cX12_worst 44 = .ok (.iload 4, 2) := by decide +kernel
theorem dX12_worst_46 : decode cX12_worst 46 = .ok (.iaload, 1) := by decide +kernel
theorem dX12_worst_47 : decode cX12_worst 47 = .ok (.putfield 452, 3) := by decide +kernel
theorem dX12_worst_50 : decode cX12_worst 50 = .ok (.aload_n 0, 1) := by decide +kernel
theorem dX12_worst_51 : decode cX12_worst 51 = .ok (.iconst 0, 1) := by decide +kernel
theorem dX12_worst_52 : decode cX12_worst 52 = .ok (.putfield 461, 3) := by decide +kernel
theorem dX12_worst_55 : decode cX12_worst 55 = .ok (.iconst 0, 1) := by decide +kernel
theorem dX12_worst_56 : decode cX12_worst 56 = .ok (.istore 5, 2) := by decide +kernel
theorem dX12_worst_58 : decode cX12_worst 58 = .ok (.iload 5, 2) := by decide +kernel
theorem dX12_worst_60 : decode cX12_worst 60 = .ok (.iload_n 2, 1) := by decide +kernel
theorem dX12_worst_61 : decode cX12_worst 61 = .ok (.if_icmp .ge 13, 3) := by decide +kernel
theorem dX12_worst_74 : decode cX12_worst 74 = .ok (.aload_n 0, 1) := by decide +kernel
theorem dX12_worst_75 : decode cX12_worst 75 = .ok (.getfield 461, 3) := by decide +kernel
theorem dX12_worst_78 : decode cX12_worst 78 = .ok (.iload_n 3, 1) := by decide +kernel
theorem dX12_worst_79 : decode cX12_worst 79 = .ok (.if_icmp .le 10, 3) := by decide +kernel
theorem dX12_worst_90 : decode cX12_worst 90 = .ok (.istore_n 3, 1) := by decide +kernel
theorem dX12_worst_91 : decode cX12_worst 91 = .ok (.aload_n 0, 1) := by decide +kernel
theorem dX12_worst_92 : decode cX12_worst 92 = .ok (.invokevirtual 510, 3) := by decide +kernel
theorem dX12_worst_95 : decode cX12_worst 95 = .ok (.iinc 4 1, 3) := by decide +kernel
theorem dX12_worst_98 : decode cX12_worst 98 = .ok (.goto (-79), 3) := by decide +kernel
theorem dX12_worst_89 : decode cX12_worst 89 = .ok (.iload_n 3, 1) := by decide +kernel
theorem dX12_worst_82 : decode cX12_worst 82 = .ok (.aload_n 0, 1) := by decide +kernel
theorem dX12_worst_83 : decode cX12_worst 83 = .ok (.getfield 461, 3) := by decide +kernel
theorem dX12_worst_86 : decode cX12_worst 86 = .ok (.goto 4, 3) := by decide +kernel
theorem dX12_worst_64 : decode cX12_worst 64 = .ok (.aload_n 0, 1) := by decide +kernel
theorem dX12_worst_65 : decode cX12_worst 65 = .ok (.invokevirtual 481, 3) := by decide +kernel
theorem dX12_worst_68 : decode cX12_worst 68 = .ok (.iinc 5 1, 3) := by decide +kernel
theorem dX12_worst_71 : decode cX12_worst 71 = .ok (.goto (-13), 3) := by decide +kernel
theorem dX12_choose_0 : decode cX12_choose 0 = .ok (.aload_n 0, 1) := by decide +kernel
theorem dX12_choose_1 : decode cX12_choose 1 = .ok (.iconst 0, 1) := by decide +kernel
theorem dX12_choose_2 : decode cX12_choose 2 = .ok (.putfield 82, 3) := by decide +kernel
theorem dX12_choose_5 : decode cX12_choose 5 = .ok (.aload_n 0, 1) := by decide +kernel
theorem dX12_choose_6 : decode cX12_choose 6 = .ok (.iload_n 1, 1) := by decide +kernel
theorem dX12_choose_7 : decode cX12_choose 7 = .ok (.invokevirtual 513, 3) := by decide +kernel
theorem dX12_choose_10 : decode cX12_choose 10 = .ok (.ifCond .eq 17, 3) := by decide +kernel
theorem dX12_choose_27 : decode cX12_choose 27 = .ok (.iconst (-1), 1) := by decide +kernel
theorem dX12_choose_28 : decode cX12_choose 28 = .ok (.ireturn, 1) := by decide +kernel
theorem dX12_choose_13 : decode cX12_choose 13 = .ok (.aload_n 0, 1) := by decide +kernel
theorem dX12_choose_14 : decode cX12_choose 14 = .ok (.getfield 504, 3) := by decide +kernel
theorem dX12_choose_17 : decode cX12_choose 17 = .ok (.ifCond .eq 10, 3) := by decide +kernel
theorem dX12_choose_20 : decode cX12_choose 20 = .ok (.aload_n 0, 1) := by decide +kernel
theorem dX12_choose_21 : decode cX12_choose 21 = .ok (.invokevirtual 516, 3) := by decide +kernel
theorem dX12_choose_24 : decode cX12_choose 24 = .ok (.ifCond .ne 5, 3) := by decide +kernel
theorem dX12_choose_29 : decode cX12_choose 29 = .ok (.iconst (-1), 1) := by decide +kernel
theorem dX12_choose_30 : decode cX12_choose 30 = .ok (.istore_n 2, 1) := by decide +kernel
theorem dX12_choose_31 : decode cX12_choose 31 = .ok (.iconst 0, 1) := by decide +kernel
theorem dX12_choose_32 : decode cX12_choose 32 = .ok (.istore_n 3, 1) := by decide +kernel
theorem dX12_choose_33 : decode cX12_choose 33 = .ok (.iconst 0, 1) := by decide +kernel
theorem dX12_choose_34 : decode cX12_choose 34 = .ok (.istore 4, 2) := by decide +kernel
theorem dX12_choose_36 : decode cX12_choose 36 = .ok (.iload 4, 2) := by decide +kernel
theorem dX12_choose_38 : decode cX12_choose 38 = .ok (.iconst 1, 1) := by decide +kernel
theorem dX12_choose_39 : decode cX12_choose 39 = .ok (.aload_n 0, 1) := by decide +kernel
theorem dX12_choose_40 : decode cX12_choose 40 = .ok (.getfield 446, 3) := by decide +kernel
theorem dX12_choose_43 : decode cX12_choose 43 = .ok (.ishl, 1) := by decide +kernel
theorem dX12_choose_44 : decode cX12_choose 44 = .ok (.if_icmp .ge 109, 3) := by decide +kernel
theorem dX12_choose_153 : decode cX12_choose 153 = .ok (.aload_n 0, 1) := by decide +kernel
theorem dX12_choose_154 : decode cX12_choose 154 = .ok (.iconst 1, 1) := by decide +kernel
theorem dX12_choose_155 : decode cX12_choose 155 = .ok (.putfield 525, 3) := by decide +kernel
theorem dX12_choose_158 : decode cX12_choose 158 = .ok (.aload_n 0, 1) := by decide +kernel
theorem dX12_choose_159 : decode cX12_choose 159 = .ok (.aload_n 0, 1) := by decide +kernel
theorem dX12_choose_160 : decode cX12_choose 160 = .ok (.getfield 446, 3) := by decide +kernel
theorem dX12_choose_163 : decode cX12_choose 163 = .ok (.putfield 528, 3) := by decide +kernel
theorem dX12_choose_166 : decode cX12_choose 166 = .ok (.iload_n 2, 1) := by decide +kernel
theorem dX12_choose_167 : decode cX12_choose 167 = .ok (.ireturn, 1) := by decide +kernel
theorem dX12_choose_47 : decode cX12_choose 47 = .ok (.iconst 0, 1) := by decide +kernel
theorem dX12_choose_48 : decode cX12_choose 48 = .ok (.istore 5, 2) := by decide +kernel
theorem dX12_choose_50 : decode cX12_choose 50 = .ok (.iconst 0, 1) := by decide +kernel
theorem dX12_choose_51 : decode cX12_choose 51 = .ok (.istore 6, 2) := by decide +kernel
theorem dX12_choose_53 : decode cX12_choose 53 = .ok (.iconst 0, 1) := by decide +kernel
theorem dX12_choose_54 : decode cX12_choose 54 = .ok (.istore 7, 2) := by decide +kernel
theorem dX12_choose_56 : decode cX12_choose 56 = .ok (.iload 7, 2) := by decide +kernel
theorem dX12_choose_58 : decode cX12_choose 58 = .ok (.aload_n 0, 1) := by decide +kernel
theorem dX12_choose_59 : decode cX12_choose 59 = .ok (.getfield 446, 3) := by decide +kernel
theorem dX12_choose_62 : decode cX12_choose 62 = .ok (.if_icmp .ge 42, 3) := by decide +kernel
theorem dX12_choose_104 : decode cX12_choose 104 = .ok (.aload_n 0, 1) := by decide +kernel
theorem dX12_choose_105 : decode cX12_choose 105 = .ok (.iload 5, 2) := by decide +kernel
theorem dX12_choose_107 : decode cX12_choose 107 = .ok (.iload_n 1, 1) := by decide +kernel
theorem dX12_choose_108 : decode cX12_choose 108 = .ok (.invokevirtual 519, 3) := by decide +kernel
theorem dX12_choose_111 : decode cX12_choose 111 = .ok (.istore 7, 2) := by decide +kernel
theorem dX12_choose_113 : decode cX12_choose 113 = .ok (.iload_n 2, 1) := by decide +kernel
theorem dX12_choose_114 : decode cX12_choose 114 = .ok (.ifCond .lt 21, 3) := by decide +kernel
theorem dX12_choose_147 : decode cX12_choose 147 = .ok (.iinc 4 1, 3) := by decide +kernel
theorem dX12_choose_150 : decode cX12_choose 150 = .ok (.goto (-114), 3) := by decide +kernel
theorem dX12_choose_135 : decode cX12_choose 135 = .ok (.iload 7, 2) := by decide +kernel
theorem dX12_choose_137 : decode cX12_choose 137 = .ok (.istore_n 2, 1) := by decide +kernel
theorem dX12_choose_138 : decode cX12_choose 138 = .ok (.iload 6, 2) := by decide +kernel
theorem dX12_choose_140 : decode cX12_choose 140 = .ok (.istore_n 3, 1) := by decide +kernel
theorem dX12_choose_141 : decode cX12_choose 141 = .ok (.aload_n 0, 1) := by decide +kernel
theorem dX12_choose_142 : decode cX12_choose 142 = .ok (.iload 5, 2) := by decide +kernel
theorem dX12_choose_144 : decode cX12_choose 144 = .ok (.putfield 522, 3) := by decide +kernel
theorem dX12_choose_117 : decode cX12_choose 117 = .ok (.iload 7, 2) := by decide +kernel
theorem dX12_choose_119 : decode cX12_choose 119 = .ok (.iload_n 2, 1) := by decide +kernel
theorem dX12_choose_120 : decode cX12_choose 120 = .ok (.if_icmp .lt 15, 3) := by decide +kernel
theorem dX12_choose_123 : decode cX12_choose 123 = .ok (.iload 7, 2) := by decide +kernel
theorem dX12_choose_125 : decode cX12_choose 125 = .ok (.iload_n 2, 1) := by decide +kernel
theorem dX12_choose_126 : decode cX12_choose 126 = .ok (.if_icmp .ne 21, 3) := by decide +kernel
theorem dX12_choose_129 : decode cX12_choose 129 = .ok (.iload 6, 2) := by decide +kernel
theorem dX12_choose_131 : decode cX12_choose 131 = .ok (.iload_n 3, 1) := by decide +kernel
theorem dX12_choose_132 : decode cX12_choose 132 = .ok (.if_icmp .ge 15, 3) := by decide +kernel
theorem dX12_choose_65 : decode cX12_choose 65 = .ok (.iload 4, 2) := by decide +kernel
theorem dX12_choose_67 : decode cX12_choose 67 = .ok (.aload_n 0, 1) := by decide +kernel
theorem dX12_choose_68 : decode cX12_choose 68 = .ok (.getfield 446, 3) := by decide +kernel
theorem dX12_choose_71 : decode cX12_choose 71 = .ok (.iconst 1, 1) := by decide +kernel
theorem dX12_choose_72 : decode cX12_choose 72 = .ok (.isub, 1) := by decide +kernel
theorem dX12_choose_73 : decode cX12_choose 73 = .ok (.iload 7, 2) := by decide +kernel
theorem dX12_choose_75 : decode cX12_choose 75 = .ok (.isub, 1) := by decide +kernel
theorem dX12_choose_76 : decode cX12_choose 76 = .ok (.ishr, 1) := by decide +kernel
theorem dX12_choose_77 : decode cX12_choose 77 = .ok (.iconst 1, 1) := by decide +kernel
theorem dX12_choose_78 : decode cX12_choose 78 = .ok (.iand, 1) := by decide +kernel
theorem dX12_choose_79 : decode cX12_choose 79 = .ok (.istore 8, 2) := by decide +kernel
theorem dX12_choose_81 : decode cX12_choose 81 = .ok (.iload 5, 2) := by decide +kernel
theorem dX12_choose_83 : decode cX12_choose 83 = .ok (.iload 8, 2) := by decide +kernel
theorem dX12_choose_85 : decode cX12_choose 85 = .ok (.iload 7, 2) := by decide +kernel
theorem dX12_choose_87 : decode cX12_choose 87 = .ok (.ishl, 1) := by decide +kernel
theorem dX12_choose_88 : decode cX12_choose 88 = .ok (.ior, 1) := by decide +kernel
theorem dX12_choose_89 : decode cX12_choose 89 = .ok (.istore 5, 2) := by decide +kernel
theorem dX12_choose_91 : decode cX12_choose 91 = .ok (.iload 6, 2) := by decide +kernel
theorem dX12_choose_93 : decode cX12_choose 93 = .ok (.iload 8, 2) := by decide +kernel
theorem dX12_choose_95 : decode cX12_choose 95 = .ok (.iadd, 1) := by decide +kernel
theorem dX12_choose_96 : decode cX12_choose 96 = .ok (.istore 6, 2) := by decide +kernel
theorem dX12_choose_98 : decode cX12_choose 98 = .ok (.iinc 7 1, 3) := by decide +kernel
theorem dX12_choose_101 : decode cX12_choose 101 = .ok (.goto (-45), 3) := by decide +kernel
theorem dX12_judge_0 : decode cX12_judge 0 = .ok (.aload_n 0, 1) := by decide +kernel
theorem dX12_judge_1 : decode cX12_judge 1 = .ok (.iconst 0, 1) := by decide +kernel
theorem dX12_judge_2 : decode cX12_judge 2 = .ok (.putfield 82, 3) := by decide +kernel
theorem dX12_judge_5 : decode cX12_judge 5 = .ok (.aload_n 0, 1) := by decide +kernel
theorem dX12_judge_6 : decode cX12_judge 6 = .ok (.iload_n 2, 1) := by decide +kernel
theorem dX12_judge_7 : decode cX12_judge 7 = .ok (.invokevirtual 513, 3) := by decide +kernel
theorem dX12_judge_10 : decode cX12_judge 10 = .ok (.ifCond .eq 34, 3) := by decide +kernel
theorem dX12_judge_54 : decode cX12_judge 54 = .ok (.ireturn, 1) := by decide +kernel
theorem dX12_judge_44 : decode cX12_judge 44 = .ok (.iconst (-1), 1) := by decide +kernel
theorem dX12_judge_45 : decode cX12_judge 45 = .ok (.goto 9, 3) := by decide +kernel
theorem dX12_judge_13 : decode cX12_judge 13 = .ok (.aload_n 0, 1) := by decide +kernel
theorem dX12_judge_14 : decode cX12_judge 14 = .ok (.getfield 504, 3) := by decide +kernel
theorem dX12_judge_17 : decode cX12_judge 17 = .ok (.ifCond .eq 27, 3) := by decide +kernel
theorem dX12_judge_20 : decode cX12_judge 20 = .ok (.aload_n 0, 1) := by decide +kernel
theorem dX12_judge_21 : decode cX12_judge 21 = .ok (.invokevirtual 516, 3) := by decide +kernel
theorem dX12_judge_24 : decode cX12_judge 24 = .ok (.ifCond .eq 20, 3) := by decide +kernel
theorem dX12_judge_27 : decode cX12_judge 27 = .ok (.iload_n 1, 1) := by decide +kernel
theorem dX12_judge_28 : decode cX12_judge 28 = .ok (.i2l, 1) := by decide +kernel
theorem dX12_judge_29 : decode cX12_judge 29 = .ok (.lconst 0, 1) := by decide +kernel
theorem dX12_judge_30 : decode cX12_judge 30 = .ok (.lconst 1, 1) := by decide +kernel
theorem dX12_judge_31 : decode cX12_judge 31 = .ok (.aload_n 0, 1) := by decide +kernel
theorem dX12_judge_32 : decode cX12_judge 32 = .ok (.getfield 446, 3) := by decide +kernel
theorem dX12_judge_35 : decode cX12_judge 35 = .ok (.lshl, 1) := by decide +kernel
theorem dX12_judge_36 : decode cX12_judge 36 = .ok (.lconst 1, 1) := by decide +kernel
theorem dX12_judge_37 : decode cX12_judge 37 = .ok (.lsub, 1) := by decide +kernel
theorem dX12_judge_38 : decode cX12_judge 38 = .ok (.invokestatic 90, 3) := by decide +kernel
theorem dX12_judge_41 : decode cX12_judge 41 = .ok (.ifCond .ne 7, 3) := by decide +kernel
theorem dX12_judge_48 : decode cX12_judge 48 = .ok (.aload_n 0, 1) := by decide +kernel
theorem dX12_judge_49 : decode cX12_judge 49 = .ok (.iload_n 1, 1) := by decide +kernel
theorem dX12_judge_50 : decode cX12_judge 50 = .ok (.iload_n 2, 1) := by decide +kernel
theorem dX12_judge_51 : decode cX12_judge 51 = .ok (.invokevirtual 519, 3) := by decide +kernel
def ms_X12_keepPaper : List (Nat × Nat) := [(824, 0)]
def po_X12_keepPaper (kp : Nat → Nat) (L : List Nat) (f0 : Nat → va_E) (h0 : Nat) : Option Value → (Nat → va_E) → Prop := fun v f => v = none ∧ FM kp L ms_X12_keepPaper f0 f ∧ (CP (aI (f0 (oR (f0 h0) 2))) (aI (f (oR (f0 h0) 4))) 0 0 35942)
set_option maxHeartbeats 4000000 in
set_option maxRecDepth 100000 in
theorem c_X12_keepPaper (l : Launch) (G : va_G) (cI cJ cZ cD cR cT : ClassId) (kp : Nat → Nat) (L : List Nat) (f0 : Nat → va_E) (hTH : TH cI cJ cZ cD cR cT kp L f0) (sz : Nat) (h0 : Nat) (rh0 : RK kp L h0 12) : Met l yX12_keepPaper (Cond.code yX12_keepPaper cX12_keepPaper 2 none :: wTab) ({ frames := 1, cells := 0, slots := 0, locals := 40 }) (va_Pc [.ref h0] (PreW G (tys6 cI cJ cZ cD cR cT) (va_pl L f0) sz)) (QT (po_X12_keepPaper kp L f0 h0) G cI cJ cZ cD cR cT (va_A (va_pl L f0) sz) kp L) 0 0 (va_A (va_pl L f0) sz) := by
  refine metT (by decide) (Nat.le_of_ble_eq_true rfl) hTH ?_
  intro p e s m below meth c A ls E hW hl
  obtain ⟨hx, hb, -, hml, hown, hts, -, -, -⟩ := id E
  have hF : FM kp L ms_X12_keepPaper f0 f0 := FM.rf
  have hl : lv_has ls 2 [(0, .ref h0)] := hl
  obtain ⟨pR, mR⟩ : ∃ x : Nat, oR (f0 h0) 2 = x := ⟨_, rfl⟩
  have rR : RK kp L pR 822 := by rw [← mR]; exact th_ref hTH rh0 (by decide) (by decide) rfl
  obtain ⟨pP, mP⟩ : ∃ x : Nat, oR (f0 h0) 4 = x := ⟨_, rfl⟩
  have rP : RK kp L pP 824 := by rw [← mP]; exact th_ref hTH rh0 (by decide) (by decide) rfl
  refine lv_iconst (v := 0) hx hb dX12_keepPaper_0 (by decide) ?_
  refine lv_istore_n (lv' := [(1, .int 0), (0, .ref h0)]) hx hb dX12_keepPaper_1 rfl hl (by decide) rfl (fun ls hl => ?_)
  have L1366 : ∀ (n : Nat), ∀ (f1359 : Nat → va_E) (y1362 : Int32) (m1360 : oR (f1359 h0) 2 = pR) (m1361 : oR (f1359 h0) 4 = pP) (b1363 : (0 : Int) ≤ y1362.toInt ∧ y1362.toInt ≤ 35942) (v1364 : CP (aI (f0 pR)) (aI (f1359 pP)) (0) (0) y1362.toInt) (v1365 : ∀ j : Nat, ((j : Int) < 0 ∨ 0 + 35942 ≤ (j : Int)) → aI (f1359 pP) j = aI (f0 pP) j) (hm : (35943 : Int) - y1362.toInt ≤ n) (H : Heap) (locs : List Loc) (ls : Array Slot), WS G cI cJ cZ cD cR cT A kp L f1359 s H locs → FM kp L ms_X12_keepPaper f0 f1359 → lv_has ls 2 [(1, .int y1362), (0, .ref h0)] → W p l e ({ frames := 1, cells := 0, slots := 0, locals := 40 }) s m ([.ref h0] : List Value).toArray below meth c H locs 0 0 (MQ below (QT (po_X12_keepPaper kp L f0 h0) G cI cJ cZ cD cR cT A kp L) ([.ref h0] : List Value).toArray s 0 0 A) (F0 m 2 ls []) := by
    intro n
    induction n with
    | zero =>
      intro f1359 y1362 m1360 m1361 b1363 v1364 v1365 hm H locs ls hW hF hl
      have hz := i32_b y1362
      exfalso; omega
    | succ n ih =>
      intro f1359 y1362 m1360 m1361 b1363 v1364 v1365 hm H locs ls hW hF hl
      have ih2 := ih
      refine lv_iload_n hx hb dX12_keepPaper_2 rfl (lv_at hl 0 rfl) ?_
      refine lv_ldc (v := 35942) hx hb hown (hts _ tw_1390) dX12_keepPaper_3 ?_
      refine q_icmp_ge (Y := 35942) (tgt := 26) hx hb dX12_keepPaper_5 (by decide) rfl rfl (fun c1382 => ?_) (fun c1382 => ?_)
      · exact e_V E hW rfl ⟨rfl, hF, (by rw [mR, mP]; exact cp_le v1364 (by omega))⟩ dX12_keepPaper_26
      · refine lv_aload_n hx hb dX12_keepPaper_8 rfl (lv_at hl 1 rfl) ?_
        refine fg_RX12_18 E hW rh0 dX12_keepPaper_9 (fun a1383 m1384 r1385 => ?_)
        obtain rfl : pP = a1383 := (m1361).symm.trans m1384
        refine lv_iload_n hx hb dX12_keepPaper_12 rfl (lv_at hl 0 rfl) ?_
        refine lv_aload_n hx hb dX12_keepPaper_13 rfl (lv_at hl 1 rfl) ?_
        refine fg_RX12_8 E hW rh0 dX12_keepPaper_14 (fun a1386 m1387 r1388 => ?_)
        obtain rfl : pR = a1386 := (m1360).symm.trans m1387
        refine lv_iload_n hx hb dX12_keepPaper_17 rfl (lv_at hl 0 rfl) ?_
        refine gl_822 E hW rR ⟨by omega, by omega⟩ dX12_keepPaper_18 (fun y1389 m1390 b1391 => ?_)
        have m1392 : aI (f0 pR) (y1362 : Int32).toNatClampNeg = y1389 := by rw [← fm_A hF rR (by decide) rfl]; exact m1390
        refine gs_824 E hW rP ⟨by omega, by omega⟩ (fun hc => rr_up2 hc (by omega) (rr_at (show RowInv (aI (f0 pR)) from th_row hTH rR) m1392 (by omega))) dX12_keepPaper_19 (fun f1393 H locs e1394 n1395 g1396 hW => ?_)
        have hF := FM.tr hF g1396 rfl
        refine q_iinc hx hb dX12_keepPaper_20 hl (k := 0) rfl rfl rfl (by omega) (by decide) (fun i1397 ls h1398 hl => ?_)
        have hl : lv_has ls 2 [(1, .int i1397), (0, .ref h0)] := hl
        refine lv_goto (tgt := 2) hx hb dX12_keepPaper_23 (by decide) ?_
        exact ih2 f1393 i1397 ((fm_R g1396 rh0 rfl).trans m1387) ((fm_R g1396 rh0 rfl).trans m1384) (by omega) (cp_st v1364 e1394 m1392 (by omega) (by omega) (by omega) (by omega)) (cp_fr v1365 e1394 (by omega)) (by omega) _ _ _ hW hF (lv_sub hl [0, 1] rfl)
  have hk1399 : (0 : Int32).toInt = 0 := rfl
  exact L1366 35943 f0 0 mR mP (by decide) (by have hk : (0 : Int32).toInt = 0 := rfl; rw [hk]; exact cp_0) (fun _ _ => rfl) (by omega) _ _ _ hW hF (lv_sub hl [0, 1] rfl)
def rw_X12_putBack : List (Nat × Nat) := [(0, 35941)]
def ms_X12_putBack : List (Nat × Nat) := [(822, 0)]
def po_X12_putBack (kp : Nat → Nat) (L : List Nat) (f0 : Nat → va_E) (h0 : Nat) : Option Value → (Nat → va_E) → Prop := fun v f => v = none ∧ FM kp L ms_X12_putBack f0 f ∧ (CP (aI (f0 (oR (f0 h0) 4))) (aI (f (oR (f0 h0) 2))) 0 0 35942) ∧ (RF rw_X12_putBack f0 f h0)
set_option maxHeartbeats 4000000 in
set_option maxRecDepth 100000 in
theorem c_X12_putBack (l : Launch) (G : va_G) (cI cJ cZ cD cR cT : ClassId) (kp : Nat → Nat) (L : List Nat) (f0 : Nat → va_E) (hTH : TH cI cJ cZ cD cR cT kp L f0) (sz : Nat) (h0 : Nat) (rh0 : RK kp L h0 12) : Met l yX12_putBack (Cond.code yX12_putBack cX12_putBack 2 none :: wTab) ({ frames := 1, cells := 0, slots := 0, locals := 40 }) (va_Pc [.ref h0] (PreW G (tys6 cI cJ cZ cD cR cT) (va_pl L f0) sz)) (QT (po_X12_putBack kp L f0 h0) G cI cJ cZ cD cR cT (va_A (va_pl L f0) sz) kp L) 0 0 (va_A (va_pl L f0) sz) := by
  refine metT (by decide) (Nat.le_of_ble_eq_true rfl) hTH ?_
  intro p e s m below meth c A ls E hW hl
  obtain ⟨hx, hb, -, hml, hown, hts, -, -, -⟩ := id E
  have hF : FM kp L ms_X12_putBack f0 f0 := FM.rf
  have hl : lv_has ls 2 [(0, .ref h0)] := hl
  obtain ⟨pR, mR⟩ : ∃ x : Nat, oR (f0 h0) 2 = x := ⟨_, rfl⟩
  have rR : RK kp L pR 822 := by rw [← mR]; exact th_ref hTH rh0 (by decide) (by decide) rfl
  obtain ⟨pP, mP⟩ : ∃ x : Nat, oR (f0 h0) 4 = x := ⟨_, rfl⟩
  have rP : RK kp L pP 824 := by rw [← mP]; exact th_ref hTH rh0 (by decide) (by decide) rfl
  refine lv_iconst (v := 0) hx hb dX12_putBack_0 (by decide) ?_
  refine lv_istore_n (lv' := [(1, .int 0), (0, .ref h0)]) hx hb dX12_putBack_1 rfl hl (by decide) rfl (fun ls hl => ?_)
  have L1484 : ∀ (n : Nat), ∀ (f1476 : Nat → va_E) (y1479 : Int32) (m1477 : oR (f1476 h0) 2 = pR) (m1478 : oR (f1476 h0) 4 = pP) (b1480 : (0 : Int) ≤ y1479.toInt ∧ y1479.toInt ≤ 35942) (z1481 : RF rw_X12_putBack f0 f1476 h0) (v1482 : CP (aI (f0 pP)) (aI (f1476 pR)) (0) (0) y1479.toInt) (v1483 : ∀ j : Nat, ((j : Int) < 0 ∨ 0 + 35942 ≤ (j : Int)) → aI (f1476 pR) j = aI (f0 pR) j) (hm : (35943 : Int) - y1479.toInt ≤ n) (H : Heap) (locs : List Loc) (ls : Array Slot), WS G cI cJ cZ cD cR cT A kp L f1476 s H locs → FM kp L ms_X12_putBack f0 f1476 → lv_has ls 2 [(1, .int y1479), (0, .ref h0)] → W p l e ({ frames := 1, cells := 0, slots := 0, locals := 40 }) s m ([.ref h0] : List Value).toArray below meth c H locs 0 0 (MQ below (QT (po_X12_putBack kp L f0 h0) G cI cJ cZ cD cR cT A kp L) ([.ref h0] : List Value).toArray s 0 0 A) (F0 m 2 ls []) := by
    intro n
    induction n with
    | zero =>
      intro f1476 y1479 m1477 m1478 b1480 z1481 v1482 v1483 hm H locs ls hW hF hl
      have hz := i32_b y1479
      exfalso; omega
    | succ n ih =>
      intro f1476 y1479 m1477 m1478 b1480 z1481 v1482 v1483 hm H locs ls hW hF hl
      have ih2 := ih
      refine lv_iload_n hx hb dX12_putBack_2 rfl (lv_at hl 0 rfl) ?_
      refine lv_ldc (v := 35942) hx hb hown (hts _ tw_1390) dX12_putBack_3 ?_
      refine q_icmp_ge (Y := 35942) (tgt := 26) hx hb dX12_putBack_5 (by decide) rfl rfl (fun c1501 => ?_) (fun c1501 => ?_)
      · exact e_V E hW rfl ⟨rfl, hF, (by rw [mP, mR]; exact cp_le v1482 (by omega)), z1481⟩ dX12_putBack_26
      · refine lv_aload_n hx hb dX12_putBack_8 rfl (lv_at hl 1 rfl) ?_
        refine fg_RX12_8 E hW rh0 dX12_putBack_9 (fun a1502 m1503 r1504 => ?_)
        obtain rfl : pR = a1502 := (m1477).symm.trans m1503
        refine lv_iload_n hx hb dX12_putBack_12 rfl (lv_at hl 0 rfl) ?_
        refine lv_aload_n hx hb dX12_putBack_13 rfl (lv_at hl 1 rfl) ?_
        refine fg_RX12_18 E hW rh0 dX12_putBack_14 (fun a1505 m1506 r1507 => ?_)
        obtain rfl : pP = a1505 := (m1478).symm.trans m1506
        refine lv_iload_n hx hb dX12_putBack_17 rfl (lv_at hl 0 rfl) ?_
        refine gl_824 E hW rP ⟨by omega, by omega⟩ dX12_putBack_18 (fun y1508 m1509 b1510 => ?_)
        have m1511 : aI (f0 pP) (y1479 : Int32).toNatClampNeg = y1508 := by rw [← fm_A hF rP (by decide) rfl]; exact m1509
        refine gs_822 E hW rR ⟨by omega, by omega⟩ (fun hc => rr_up2 hc (by omega) (rr_at (show RowInv (aI (f0 pP)) from th_paper hTH rP) m1511 (by omega))) dX12_putBack_19 (fun f1512 H locs e1513 n1514 g1515 hW => ?_)
        have z1516 : RF rw_X12_putBack f0 f1512 h0 := rf_st (lo := 0) (hi := 35941) z1481 mR e1513 (by omega) rfl
        have hF := FM.tr hF g1515 rfl
        refine q_iinc hx hb dX12_putBack_20 hl (k := 0) rfl rfl rfl (by omega) (by decide) (fun i1517 ls h1518 hl => ?_)
        have hl : lv_has ls 2 [(1, .int i1517), (0, .ref h0)] := hl
        refine lv_goto (tgt := 2) hx hb dX12_putBack_23 (by decide) ?_
        exact ih2 f1512 i1517 ((fm_R g1515 rh0 rfl).trans m1503) ((fm_R g1515 rh0 rfl).trans m1506) (by omega) z1516 (cp_st v1482 e1513 m1511 (by omega) (by omega) (by omega) (by omega)) (cp_fr v1483 e1513 (by omega)) (by omega) _ _ _ hW hF (lv_sub hl [0, 1] rfl)
  have hk1519 : (0 : Int32).toInt = 0 := rfl
  exact L1484 35943 f0 0 mR mP (by decide) rf_rf (by have hk : (0 : Int32).toInt = 0 := rfl; rw [hk]; exact cp_0) (fun _ _ => rfl) (by omega) _ _ _ hW hF (lv_sub hl [0, 1] rfl)
def ms_X12_image : List (Nat × Nat) := [(12, 0), (12, 1), (823, 0), (825, 0)]
def po_X12_image (kp : Nat → Nat) (L : List Nat) (f0 : Nat → va_E) (h0 : Nat) (u1 : Int32) : Option Value → (Nat → va_E) → Prop := fun v f => (∃ r : Int32, v = some (.int r) ∧ (True)) ∧ FM kp L ms_X12_image f0 f ∧ (((0 ≤ u1.toInt ∧ u1.toInt ≤ 1) ∧ CP (aI (f0 (oR (f0 h0) 2))) (aI (f (oR (f0 h0) 3))) 0 (35942 * u1.toInt) 35942 ∧ ∀ j : Nat, ((j : Int) < 35942 * u1.toInt ∨ 35942 * u1.toInt + 35942 ≤ (j : Int)) → aI (f (oR (f0 h0) 3)) j = aI (f0 (oR (f0 h0) 3)) j) ∨ aI (f (oR (f0 h0) 3)) = aI (f0 (oR (f0 h0) 3)))
set_option maxHeartbeats 4000000 in
set_option maxRecDepth 100000 in
theorem c_X12_image (l : Launch) (G : va_G) (cI cJ cZ cD cR cT : ClassId) (kp : Nat → Nat) (L : List Nat) (f0 : Nat → va_E) (hTH : TH cI cJ cZ cD cR cT kp L f0) (sz : Nat) (h0 : Nat) (u1 : Int32) (rh0 : RK kp L h0 12) : Met l yX12_image (Cond.code yX12_image cX12_image 3 (some .int) :: wTab) ({ frames := 2, cells := 0, slots := 0, locals := 65 }) (va_Pc [.ref h0, .int u1] (PreW G (tys6 cI cJ cZ cD cR cT) (va_pl L f0) sz)) (QT (po_X12_image kp L f0 h0 u1) G cI cJ cZ cD cR cT (va_A (va_pl L f0) sz) kp L) 0 0 (va_A (va_pl L f0) sz) := by
  refine metT (by decide) (Nat.le_of_ble_eq_true rfl) hTH ?_
  intro p e s m below meth c A ls E hW hl
  obtain ⟨hx, hb, -, hml, hown, hts, -, -, -⟩ := id E
  have hF : FM kp L ms_X12_image f0 f0 := FM.rf
  have hl : lv_has ls 3 [(0, .ref h0), (1, .int u1)] := hl
  obtain ⟨pR, mR⟩ : ∃ x : Nat, oR (f0 h0) 2 = x := ⟨_, rfl⟩
  have rR : RK kp L pR 822 := by rw [← mR]; exact th_ref hTH rh0 (by decide) (by decide) rfl
  obtain ⟨pI, mI⟩ : ∃ x : Nat, oR (f0 h0) 3 = x := ⟨_, rfl⟩
  have rI : RK kp L pI 823 := by rw [← mI]; exact th_ref hTH rh0 (by decide) (by decide) rfl
  refine lv_aload_n hx hb dX12_image_0 rfl (lv_at hl 0 rfl) ?_
  refine lv_iconst (v := 0) hx hb dX12_image_1 (by decide) ?_
  refine fp_RX12_82 E hW rh0 dX12_image_2 (fun f1 H locs e2 n3 g4 hW => ?_)
  have hF := FM.tr hF g4 rfl
  refine lv_iload_n hx hb dX12_image_5 rfl (lv_at hl 1 rfl) ?_
  refine q_i2l hx hb dX12_image_6 rfl (fun x5 h6 => ?_)
  have hb7 : -2147483648 ≤ x5.toInt ∧ x5.toInt ≤ 2147483647 := by have := i32_b u1; omega
  refine lv_lconst (v := 0) hx hb dX12_image_7 (by decide) ?_
  refine lv_lconst (v := 1) hx hb dX12_image_8 (by decide) ?_
  refine t_callS (As := [.long x5, .long 0, .long 1]) (rest := []) E hW (c_X12_in l G cI cJ cZ cD cR cT kp L f1 hW.2.2.2 _ x5 0 1) wk_X12_in tw_1554 rfl ⟨Nat.le_of_ble_eq_true rfl, Nat.le_of_ble_eq_true rfl⟩ ⟨rfl, rfl⟩ hl.1 rfl (Nat.le_of_ble_eq_true rfl) dX12_image_9 ⟨Nat.le_of_ble_eq_true rfl, Nat.le_of_ble_eq_true rfl⟩ (fun v8 f9 H locs q10 hW => ?_)
  obtain ⟨⟨x12, rfl, p13⟩, g11⟩ := q10
  have p13 : (x12.toInt = 1 ∧ 0 ≤ x5.toInt ∧ x5.toInt ≤ 1) ∨ (x12.toInt = 0 ∧ (x5.toInt < 0 ∨ 1 < x5.toInt)) := p13
  have hF := FM.tr hF g11 rfl
  refine q_if_ne (tgt := 21) hx hb dX12_image_12 (by decide) rfl (fun c14 => ?_) (fun c14 => ?_)
  · have q15 : 0 ≤ x5.toInt ∧ x5.toInt ≤ 1 := by omega
    clear p13
    refine lv_iconst (v := 0) hx hb dX12_image_21 (by decide) ?_
    refine lv_istore_n (lv' := [(2, .int 0), (0, .ref h0), (1, .int u1)]) hx hb dX12_image_22 rfl hl (by decide) rfl (fun ls hl => ?_)
    have L1677 : ∀ (n : Nat), ∀ (f1669 : Nat → va_E) (y1673 : Int32) (m1670 : oI (f1669 h0) 0 = 0) (m1671 : oR (f1669 h0) 2 = pR) (m1672 : oR (f1669 h0) 3 = pI) (b1674 : (0 : Int) ≤ y1673.toInt ∧ y1673.toInt ≤ 35942) (v1675 : CP (aI (f0 pR)) (aI (f1669 pI)) (0) (35942 * u1.toInt) y1673.toInt) (v1676 : ∀ j : Nat, ((j : Int) < 35942 * u1.toInt ∨ 35942 * u1.toInt + 35942 ≤ (j : Int)) → aI (f1669 pI) j = aI (f0 pI) j) (hm : (35943 : Int) - y1673.toInt ≤ n) (H : Heap) (locs : List Loc) (ls : Array Slot), WS G cI cJ cZ cD cR cT A kp L f1669 s H locs → FM kp L ms_X12_image f0 f1669 → lv_has ls 3 [(2, .int y1673), (0, .ref h0), (1, .int u1)] → W p l e ({ frames := 2, cells := 0, slots := 0, locals := 65 }) s m ([.ref h0, .int u1] : List Value).toArray below meth c H locs 0 0 (MQ below (QT (po_X12_image kp L f0 h0 u1) G cI cJ cZ cD cR cT A kp L) ([.ref h0, .int u1] : List Value).toArray s 0 0 A) (F0 m 23 ls []) := by
      intro n
      induction n with
      | zero =>
        intro f1669 y1673 m1670 m1671 m1672 b1674 v1675 v1676 hm H locs ls hW hF hl
        have hz := i32_b y1673
        exfalso; omega
      | succ n ih =>
        intro f1669 y1673 m1670 m1671 m1672 b1674 v1675 v1676 hm H locs ls hW hF hl
        clear c14
        have ih23 := ih
        refine lv_iload_n hx hb dX12_image_23 rfl (lv_at hl 0 rfl) ?_
        refine lv_ldc (v := 35942) hx hb hown (hts _ tw_1390) dX12_image_24 ?_
        refine q_icmp_ge (Y := 35942) (tgt := 52) hx hb dX12_image_26 (by decide) rfl rfl (fun c1697 => ?_) (fun c1697 => ?_)
        · refine lv_aload_n hx hb dX12_image_52 rfl (lv_at hl 1 rfl) ?_
          refine fg_RX12_21 E hW rh0 dX12_image_53 (fun a1698 m1699 r1700 => ?_)
          refine lv_iload_n hx hb dX12_image_56 rfl (lv_at hl 2 rfl) ?_
          refine lv_iconst (v := 1) hx hb dX12_image_57 (by decide) ?_
          refine gs_825 E hW r1700 ⟨by omega, by omega⟩ (by decide) dX12_image_58 (fun f1701 H locs e1702 n1703 g1704 hW => ?_)
          have hF := FM.tr hF g1704 rfl
          refine lv_aload_n hx hb dX12_image_59 rfl (lv_at hl 1 rfl) ?_
          refine lv_iconst (v := 0) hx hb dX12_image_60 (by decide) ?_
          refine t_callV (As := [.int 0]) (rest := []) E hW (c_X12_told l G cI cJ cZ cD cR cT kp L f1701 hW.2.2.2 _ h0 0 rh0) rh0 (by decide) rfl wk_X12_told tw_1557 rfl ⟨Nat.le_of_ble_eq_true rfl, Nat.le_of_ble_eq_true rfl⟩ ⟨rfl, rfl⟩ hl.1 rfl (Nat.le_of_ble_eq_true rfl) dX12_image_61 ⟨Nat.le_of_ble_eq_true rfl, Nat.le_of_ble_eq_true rfl⟩ (fun v1705 f1706 H locs q1707 hW => ?_)
          obtain ⟨⟨x1709, rfl, p1710⟩, g1708⟩ := q1707
          clear p1710
          have hF := FM.tr hF g1708 rfl
          exact e_I E hW rfl ⟨⟨_, rfl, trivial⟩, hF, (Or.inl ⟨by omega, by rw [mR, mI]; rw [((congrArg aI (fm_A g1708 rI (by decide) rfl)).trans ((congrArg aI (fm_A g1704 rI (by decide) rfl)).trans rfl))]; exact cp_le v1675 (by omega), by rw [mI]; rw [((congrArg aI (fm_A g1708 rI (by decide) rfl)).trans ((congrArg aI (fm_A g1704 rI (by decide) rfl)).trans rfl))]; exact v1676⟩)⟩ dX12_image_64
        · refine lv_aload_n hx hb dX12_image_29 rfl (lv_at hl 1 rfl) ?_
          refine fg_RX12_15 E hW rh0 dX12_image_30 (fun a1711 m1712 r1713 => ?_)
          obtain rfl : pI = a1711 := (m1672).symm.trans m1712
          refine lv_ldc (v := 35942) hx hb hown (hts _ tw_1390) dX12_image_33 ?_
          refine lv_iload_n hx hb dX12_image_35 rfl (lv_at hl 2 rfl) ?_
          refine q_imul (X := 35942) hx hb dX12_image_36 rfl rfl (by omega) (fun x1714 h1715 => ?_)
          refine lv_iload_n hx hb dX12_image_37 rfl (lv_at hl 0 rfl) ?_
          refine q_iadd hx hb dX12_image_38 rfl rfl (by omega) (fun x1716 h1717 => ?_)
          refine lv_aload_n hx hb dX12_image_39 rfl (lv_at hl 1 rfl) ?_
          refine fg_RX12_8 E hW rh0 dX12_image_40 (fun a1718 m1719 r1720 => ?_)
          obtain rfl : pR = a1718 := (m1671).symm.trans m1719
          refine lv_iload_n hx hb dX12_image_43 rfl (lv_at hl 0 rfl) ?_
          refine gl_822 E hW rR ⟨by omega, by omega⟩ dX12_image_44 (fun y1721 m1722 b1723 => ?_)
          have m1724 : aI (f0 pR) (y1673 : Int32).toNatClampNeg = y1721 := by rw [← fm_A hF rR (by decide) rfl]; exact m1722
          refine gs_823 E hW rI ⟨by omega, by omega⟩ (fun hc => img_up (k := u1) (i := y1673) hc (by omega) (by omega) (by omega) (rr_at (show RowInv (aI (f0 pR)) from th_row hTH rR) m1724 (by omega))) dX12_image_45 (fun f1725 H locs e1726 n1727 g1728 hW => ?_)
          have hF := FM.tr hF g1728 rfl
          refine q_iinc hx hb dX12_image_46 hl (k := 0) rfl rfl rfl (by omega) (by decide) (fun i1729 ls h1730 hl => ?_)
          have hl : lv_has ls 3 [(2, .int i1729), (0, .ref h0), (1, .int u1)] := hl
          refine lv_goto (tgt := 23) hx hb dX12_image_49 (by decide) ?_
          exact ih23 f1725 i1729 ((fm_I g1728 rh0 rfl).trans m1670) ((fm_R g1728 rh0 rfl).trans m1719) ((fm_R g1728 rh0 rfl).trans m1712) (by omega) (cp_st v1675 e1726 m1724 (by omega) (by omega) (by omega) (by omega)) (cp_fr v1676 e1726 (by omega)) (by omega) _ _ _ hW hF (lv_sub hl [0, 1, 2] rfl)
    have hk1731 : (0 : Int32).toInt = 0 := rfl
    exact L1677 35943 f9 0 ((fm_I g11 rh0 rfl).trans e2) ((fm_R g11 rh0 rfl).trans ((fm_R g4 rh0 rfl).trans mR)) ((fm_R g11 rh0 rfl).trans ((fm_R g4 rh0 rfl).trans mI)) (by decide) (by have hk : (0 : Int32).toInt = 0 := rfl; rw [hk]; exact cp_0) (fun j _ => by rw [((congrArg aI (fm_A g11 rI (by decide) rfl)).trans ((congrArg aI (fm_A g4 rI (by decide) rfl)).trans rfl))]) (by omega) _ _ _ hW hF (lv_sub hl [0, 1, 2] rfl)
  · have q1732 : (x5.toInt < 0 ∨ 1 < x5.toInt) := by omega
    clear p13
    refine lv_aload_n hx hb dX12_image_15 rfl (lv_at hl 0 rfl) ?_
    refine lv_iconst (v := (-1)) hx hb dX12_image_16 (by decide) ?_
    refine t_callV (As := [.int (-1)]) (rest := []) E hW (c_X12_told l G cI cJ cZ cD cR cT kp L f9 hW.2.2.2 _ h0 (-1) rh0) rh0 (by decide) rfl wk_X12_told tw_1557 rfl ⟨Nat.le_of_ble_eq_true rfl, Nat.le_of_ble_eq_true rfl⟩ ⟨rfl, rfl⟩ hl.1 rfl (Nat.le_of_ble_eq_true rfl) dX12_image_17 ⟨Nat.le_of_ble_eq_true rfl, Nat.le_of_ble_eq_true rfl⟩ (fun v1733 f1734 H locs q1735 hW => ?_)
    obtain ⟨⟨x1737, rfl, p1738⟩, g1736⟩ := q1735
    clear p1738
    have hF := FM.tr hF g1736 rfl
    exact e_I E hW rfl ⟨⟨_, rfl, trivial⟩, hF, (Or.inr (by rw [mI]; exact ((congrArg aI (fm_A g1736 rI (by decide) rfl)).trans ((congrArg aI (fm_A g11 rI (by decide) rfl)).trans ((congrArg aI (fm_A g4 rI (by decide) rfl)).trans rfl)))))⟩ dX12_image_20
def rw_X12_back : List (Nat × Nat) := [(0, 35941)]
def ms_X12_back : List (Nat × Nat) := [(12, 0), (12, 1), (822, 0)]
def po_X12_back (kp : Nat → Nat) (L : List Nat) (f0 : Nat → va_E) (h0 : Nat) (u1 : Int32) : Option Value → (Nat → va_E) → Prop := fun v f => (∃ r : Int32, v = some (.int r) ∧ (True)) ∧ FM kp L ms_X12_back f0 f ∧ (((0 ≤ u1.toInt ∧ u1.toInt ≤ 1) ∧ CP (aI (f0 (oR (f0 h0) 3))) (aI (f (oR (f0 h0) 2))) (35942 * u1.toInt) 0 35942) ∨ aI (f (oR (f0 h0) 2)) = aI (f0 (oR (f0 h0) 2))) ∧ (RF rw_X12_back f0 f h0)
set_option maxHeartbeats 4000000 in
set_option maxRecDepth 100000 in
theorem c_X12_back (l : Launch) (G : va_G) (cI cJ cZ cD cR cT : ClassId) (kp : Nat → Nat) (L : List Nat) (f0 : Nat → va_E) (hTH : TH cI cJ cZ cD cR cT kp L f0) (sz : Nat) (h0 : Nat) (u1 : Int32) (rh0 : RK kp L h0 12) : Met l yX12_back (Cond.code yX12_back cX12_back 3 (some .int) :: wTab) ({ frames := 2, cells := 0, slots := 0, locals := 65 }) (va_Pc [.ref h0, .int u1] (PreW G (tys6 cI cJ cZ cD cR cT) (va_pl L f0) sz)) (QT (po_X12_back kp L f0 h0 u1) G cI cJ cZ cD cR cT (va_A (va_pl L f0) sz) kp L) 0 0 (va_A (va_pl L f0) sz) := by
  refine metT (by decide) (Nat.le_of_ble_eq_true rfl) hTH ?_
  intro p e s m below meth c A ls E hW hl
  obtain ⟨hx, hb, -, hml, hown, hts, -, -, -⟩ := id E
  have hF : FM kp L ms_X12_back f0 f0 := FM.rf
  have hl : lv_has ls 3 [(0, .ref h0), (1, .int u1)] := hl
  obtain ⟨pR, mR⟩ : ∃ x : Nat, oR (f0 h0) 2 = x := ⟨_, rfl⟩
  have rR : RK kp L pR 822 := by rw [← mR]; exact th_ref hTH rh0 (by decide) (by decide) rfl
  obtain ⟨pI, mI⟩ : ∃ x : Nat, oR (f0 h0) 3 = x := ⟨_, rfl⟩
  have rI : RK kp L pI 823 := by rw [← mI]; exact th_ref hTH rh0 (by decide) (by decide) rfl
  refine lv_aload_n hx hb dX12_back_0 rfl (lv_at hl 0 rfl) ?_
  refine lv_iconst (v := 0) hx hb dX12_back_1 (by decide) ?_
  refine fp_RX12_82 E hW rh0 dX12_back_2 (fun f1 H locs e2 n3 g4 hW => ?_)
  have z5 : RF rw_X12_back f0 f1 h0 := rf_fm hTH rf_rf g4 rh0 rfl
  have hF := FM.tr hF g4 rfl
  refine lv_iload_n hx hb dX12_back_5 rfl (lv_at hl 1 rfl) ?_
  refine q_i2l hx hb dX12_back_6 rfl (fun x6 h7 => ?_)
  have hb8 : -2147483648 ≤ x6.toInt ∧ x6.toInt ≤ 2147483647 := by have := i32_b u1; omega
  refine lv_lconst (v := 0) hx hb dX12_back_7 (by decide) ?_
  refine lv_lconst (v := 1) hx hb dX12_back_8 (by decide) ?_
  refine t_callS (As := [.long x6, .long 0, .long 1]) (rest := []) E hW (c_X12_in l G cI cJ cZ cD cR cT kp L f1 hW.2.2.2 _ x6 0 1) wk_X12_in tw_1554 rfl ⟨Nat.le_of_ble_eq_true rfl, Nat.le_of_ble_eq_true rfl⟩ ⟨rfl, rfl⟩ hl.1 rfl (Nat.le_of_ble_eq_true rfl) dX12_back_9 ⟨Nat.le_of_ble_eq_true rfl, Nat.le_of_ble_eq_true rfl⟩ (fun v9 f10 H locs q11 hW => ?_)
  obtain ⟨⟨x13, rfl, p14⟩, g12⟩ := q11
  have p14 : (x13.toInt = 1 ∧ 0 ≤ x6.toInt ∧ x6.toInt ≤ 1) ∨ (x13.toInt = 0 ∧ (x6.toInt < 0 ∨ 1 < x6.toInt)) := p14
  have z15 : RF rw_X12_back f0 f10 h0 := rf_fm hTH z5 g12 rh0 rfl
  have hF := FM.tr hF g12 rfl
  refine q_if_ne (tgt := 21) hx hb dX12_back_12 (by decide) rfl (fun c16 => ?_) (fun c16 => ?_)
  · have q17 : 0 ≤ x6.toInt ∧ x6.toInt ≤ 1 := by omega
    clear p14
    refine lv_aload_n hx hb dX12_back_21 rfl (lv_at hl 0 rfl) ?_
    refine fg_RX12_21 E hW rh0 dX12_back_22 (fun a18 m19 r20 => ?_)
    refine lv_iload_n hx hb dX12_back_25 rfl (lv_at hl 1 rfl) ?_
    refine gl_825 E hW r20 ⟨by omega, by omega⟩ dX12_back_26 (fun y21 m22 b23 => ?_)
    refine q_if_ne (tgt := 37) hx hb dX12_back_27 (by decide) rfl (fun c24 => ?_) (fun c24 => ?_)
    · refine lv_iconst (v := 0) hx hb dX12_back_37 (by decide) ?_
      refine lv_istore_n (lv' := [(2, .int 0), (0, .ref h0), (1, .int u1)]) hx hb dX12_back_38 rfl hl (by decide) rfl (fun ls hl => ?_)
      have L1864 : ∀ (n : Nat), ∀ (f1854 : Nat → va_E) (y1859 : Int32) (m1855 : oI (f1854 h0) 0 = 0) (m1856 : oR (f1854 h0) 2 = pR) (m1857 : oR (f1854 h0) 3 = pI) (m1858 : oR (f1854 h0) 5 = a18) (b1860 : (0 : Int) ≤ y1859.toInt ∧ y1859.toInt ≤ 35942) (z1861 : RF rw_X12_back f0 f1854 h0) (v1862 : CP (aI (f0 pI)) (aI (f1854 pR)) (35942 * u1.toInt) (0) y1859.toInt) (v1863 : ∀ j : Nat, ((j : Int) < 0 ∨ 0 + 35942 ≤ (j : Int)) → aI (f1854 pR) j = aI (f0 pR) j) (hm : (35943 : Int) - y1859.toInt ≤ n) (H : Heap) (locs : List Loc) (ls : Array Slot), WS G cI cJ cZ cD cR cT A kp L f1854 s H locs → FM kp L ms_X12_back f0 f1854 → lv_has ls 3 [(2, .int y1859), (0, .ref h0), (1, .int u1)] → W p l e ({ frames := 2, cells := 0, slots := 0, locals := 65 }) s m ([.ref h0, .int u1] : List Value).toArray below meth c H locs 0 0 (MQ below (QT (po_X12_back kp L f0 h0 u1) G cI cJ cZ cD cR cT A kp L) ([.ref h0, .int u1] : List Value).toArray s 0 0 A) (F0 m 39 ls []) := by
        intro n
        induction n with
        | zero =>
          intro f1854 y1859 m1855 m1856 m1857 m1858 b1860 z1861 v1862 v1863 hm H locs ls hW hF hl
          have hz := i32_b y1859
          exfalso; omega
        | succ n ih =>
          intro f1854 y1859 m1855 m1856 m1857 m1858 b1860 z1861 v1862 v1863 hm H locs ls hW hF hl
          clear c16 b23 c24
          have ih39 := ih
          refine lv_iload_n hx hb dX12_back_39 rfl (lv_at hl 0 rfl) ?_
          refine lv_ldc (v := 35942) hx hb hown (hts _ tw_1390) dX12_back_40 ?_
          refine q_icmp_ge (Y := 35942) (tgt := 68) hx hb dX12_back_42 (by decide) rfl rfl (fun c1885 => ?_) (fun c1885 => ?_)
          · refine lv_aload_n hx hb dX12_back_68 rfl (lv_at hl 1 rfl) ?_
            refine lv_iconst (v := 0) hx hb dX12_back_69 (by decide) ?_
            refine t_callV (As := [.int 0]) (rest := []) E hW (c_X12_told l G cI cJ cZ cD cR cT kp L f1854 hW.2.2.2 _ h0 0 rh0) rh0 (by decide) rfl wk_X12_told tw_1557 rfl ⟨Nat.le_of_ble_eq_true rfl, Nat.le_of_ble_eq_true rfl⟩ ⟨rfl, rfl⟩ hl.1 rfl (Nat.le_of_ble_eq_true rfl) dX12_back_70 ⟨Nat.le_of_ble_eq_true rfl, Nat.le_of_ble_eq_true rfl⟩ (fun v1886 f1887 H locs q1888 hW => ?_)
            obtain ⟨⟨x1890, rfl, p1891⟩, g1889⟩ := q1888
            clear p1891
            have z1892 : RF rw_X12_back f0 f1887 h0 := rf_fm hTH z1861 g1889 rh0 rfl
            have hF := FM.tr hF g1889 rfl
            exact e_I E hW rfl ⟨⟨_, rfl, trivial⟩, hF, (Or.inl ⟨by omega, by rw [mI, mR]; rw [((congrArg aI (fm_A g1889 rR (by decide) rfl)).trans rfl)]; exact cp_le v1862 (by omega)⟩), z1892⟩ dX12_back_73
          · refine lv_aload_n hx hb dX12_back_45 rfl (lv_at hl 1 rfl) ?_
            refine fg_RX12_8 E hW rh0 dX12_back_46 (fun a1893 m1894 r1895 => ?_)
            obtain rfl : pR = a1893 := (m1856).symm.trans m1894
            refine lv_iload_n hx hb dX12_back_49 rfl (lv_at hl 0 rfl) ?_
            refine lv_aload_n hx hb dX12_back_50 rfl (lv_at hl 1 rfl) ?_
            refine fg_RX12_15 E hW rh0 dX12_back_51 (fun a1896 m1897 r1898 => ?_)
            obtain rfl : pI = a1896 := (m1857).symm.trans m1897
            refine lv_ldc (v := 35942) hx hb hown (hts _ tw_1390) dX12_back_54 ?_
            refine lv_iload_n hx hb dX12_back_56 rfl (lv_at hl 2 rfl) ?_
            refine q_imul (X := 35942) hx hb dX12_back_57 rfl rfl (by omega) (fun x1899 h1900 => ?_)
            refine lv_iload_n hx hb dX12_back_58 rfl (lv_at hl 0 rfl) ?_
            refine q_iadd hx hb dX12_back_59 rfl rfl (by omega) (fun x1901 h1902 => ?_)
            refine gl_823 E hW rI ⟨by omega, by omega⟩ dX12_back_60 (fun y1903 m1904 b1905 => ?_)
            have m1906 : aI (f0 pI) (x1901 : Int32).toNatClampNeg = y1903 := by rw [← fm_A hF rI (by decide) rfl]; exact m1904
            refine gs_822 E hW rR ⟨by omega, by omega⟩ (fun hc => rr_up2 hc (by omega) (img_at (k := u1) (i := y1859) (show ImgInv (aI (f0 pI)) from th_img hTH rI) m1906 (by omega) (by omega) (by omega))) dX12_back_61 (fun f1907 H locs e1908 n1909 g1910 hW => ?_)
            have z1911 : RF rw_X12_back f0 f1907 h0 := rf_st (lo := 0) (hi := 35941) z1861 mR e1908 (by omega) rfl
            have hF := FM.tr hF g1910 rfl
            refine q_iinc hx hb dX12_back_62 hl (k := 0) rfl rfl rfl (by omega) (by decide) (fun i1912 ls h1913 hl => ?_)
            have hl : lv_has ls 3 [(2, .int i1912), (0, .ref h0), (1, .int u1)] := hl
            refine lv_goto (tgt := 39) hx hb dX12_back_65 (by decide) ?_
            exact ih39 f1907 i1912 ((fm_I g1910 rh0 rfl).trans m1855) ((fm_R g1910 rh0 rfl).trans m1894) ((fm_R g1910 rh0 rfl).trans m1897) ((fm_R g1910 rh0 rfl).trans m1858) (by omega) z1911 (cp_st v1862 e1908 m1906 (by omega) (by omega) (by omega) (by omega)) (cp_fr v1863 e1908 (by omega)) (by omega) _ _ _ hW hF (lv_sub hl [0, 1, 2] rfl)
      have hk1914 : (0 : Int32).toInt = 0 := rfl
      exact L1864 35943 f10 0 ((fm_I g12 rh0 rfl).trans e2) ((fm_R g12 rh0 rfl).trans ((fm_R g4 rh0 rfl).trans mR)) ((fm_R g12 rh0 rfl).trans ((fm_R g4 rh0 rfl).trans mI)) m19 (by decide) z15 (by have hk : (0 : Int32).toInt = 0 := rfl; rw [hk]; exact cp_0) (fun j _ => by rw [((congrArg aI (fm_A g12 rR (by decide) rfl)).trans ((congrArg aI (fm_A g4 rR (by decide) rfl)).trans rfl))]) (by omega) _ _ _ hW hF (lv_sub hl [0, 1, 2] rfl)
    · refine lv_aload_n hx hb dX12_back_30 rfl (lv_at hl 0 rfl) ?_
      refine lv_bipush (v := (-2)) hx hb dX12_back_31 (by decide) ?_
      refine t_callV (As := [.int (-2)]) (rest := []) E hW (c_X12_told l G cI cJ cZ cD cR cT kp L f10 hW.2.2.2 _ h0 (-2) rh0) rh0 (by decide) rfl wk_X12_told tw_1557 rfl ⟨Nat.le_of_ble_eq_true rfl, Nat.le_of_ble_eq_true rfl⟩ ⟨rfl, rfl⟩ hl.1 rfl (Nat.le_of_ble_eq_true rfl) dX12_back_33 ⟨Nat.le_of_ble_eq_true rfl, Nat.le_of_ble_eq_true rfl⟩ (fun v1915 f1916 H locs q1917 hW => ?_)
      obtain ⟨⟨x1919, rfl, p1920⟩, g1918⟩ := q1917
      clear p1920
      have z1921 : RF rw_X12_back f0 f1916 h0 := rf_fm hTH z15 g1918 rh0 rfl
      have hF := FM.tr hF g1918 rfl
      exact e_I E hW rfl ⟨⟨_, rfl, trivial⟩, hF, (Or.inr (by rw [mR]; exact ((congrArg aI (fm_A g1918 rR (by decide) rfl)).trans ((congrArg aI (fm_A g12 rR (by decide) rfl)).trans ((congrArg aI (fm_A g4 rR (by decide) rfl)).trans rfl))))), z1921⟩ dX12_back_36
  · have q1922 : (x6.toInt < 0 ∨ 1 < x6.toInt) := by omega
    clear p14
    refine lv_aload_n hx hb dX12_back_15 rfl (lv_at hl 0 rfl) ?_
    refine lv_iconst (v := (-1)) hx hb dX12_back_16 (by decide) ?_
    refine t_callV (As := [.int (-1)]) (rest := []) E hW (c_X12_told l G cI cJ cZ cD cR cT kp L f10 hW.2.2.2 _ h0 (-1) rh0) rh0 (by decide) rfl wk_X12_told tw_1557 rfl ⟨Nat.le_of_ble_eq_true rfl, Nat.le_of_ble_eq_true rfl⟩ ⟨rfl, rfl⟩ hl.1 rfl (Nat.le_of_ble_eq_true rfl) dX12_back_17 ⟨Nat.le_of_ble_eq_true rfl, Nat.le_of_ble_eq_true rfl⟩ (fun v1923 f1924 H locs q1925 hW => ?_)
    obtain ⟨⟨x1927, rfl, p1928⟩, g1926⟩ := q1925
    clear p1928
    have z1929 : RF rw_X12_back f0 f1924 h0 := rf_fm hTH z15 g1926 rh0 rfl
    have hF := FM.tr hF g1926 rfl
    exact e_I E hW rfl ⟨⟨_, rfl, trivial⟩, hF, (Or.inr (by rw [mR]; exact ((congrArg aI (fm_A g1926 rR (by decide) rfl)).trans ((congrArg aI (fm_A g12 rR (by decide) rfl)).trans ((congrArg aI (fm_A g4 rR (by decide) rfl)).trans rfl))))), z1929⟩ dX12_back_20
def ms_X12_least : List (Nat × Nat) := [(12, 0), (12, 33), (12, 34), (12, 35), (12, 36), (12, 37), (849, 0), (850, 0), (851, 0), (852, 0), (860, 0)]
def po_X12_least (kp : Nat → Nat) (L : List Nat) (f0 : Nat → va_E) (h0 : Nat) (u1 : Int32) (u2 : Int32) : Option Value → (Nat → va_E) → Prop := fun v f => (∃ r : Int32, v = some (.int r) ∧ ((-1 : Int) ≤ r.toInt ∧ r.toInt ≤ 40)) ∧ FM kp L ms_X12_least f0 f
set_option maxHeartbeats 4000000 in
set_option maxRecDepth 100000 in
theorem c_X12_least (l : Launch) (G : va_G) (cI cJ cZ cD cR cT : ClassId) (kp : Nat → Nat) (L : List Nat) (f0 : Nat → va_E) (hTH : TH cI cJ cZ cD cR cT kp L f0) (sz : Nat) (h0 : Nat) (u1 : Int32) (u2 : Int32) (rh0 : RK kp L h0 12) (hTX : TX (aI (f0 (oR (f0 h0) 2)))) : Met l yX12_least (Cond.code yX12_least cX12_least 10 (some .int) :: wTab) ({ frames := 6, cells := 0, slots := 0, locals := 163 }) (va_Pc [.ref h0, .int u1, .int u2] (PreW G (tys6 cI cJ cZ cD cR cT) (va_pl L f0) sz)) (QT (po_X12_least kp L f0 h0 u1 u2) G cI cJ cZ cD cR cT (va_A (va_pl L f0) sz) kp L) 0 0 (va_A (va_pl L f0) sz) := by
  refine metT (by decide) (Nat.le_of_ble_eq_true rfl) hTH ?_
  intro p e s m below meth c A ls E hW hl
  obtain ⟨hx, hb, -, hml, hown, hts, -, -, -⟩ := id E
  have hF : FM kp L ms_X12_least f0 f0 := FM.rf
  have hl : lv_has ls 10 [(0, .ref h0), (1, .int u1), (2, .int u2)] := hl
  obtain ⟨pR, mR⟩ : ∃ x : Nat, oR (f0 h0) 2 = x := ⟨_, rfl⟩
  have rR : RK kp L pR 822 := by rw [← mR]; exact th_ref hTH rh0 (by decide) (by decide) rfl
  rw [mR] at hTX
  refine lv_aload_n hx hb dX12_least_0 rfl (lv_at hl 0 rfl) ?_
  refine lv_iconst (v := 0) hx hb dX12_least_1 (by decide) ?_
  refine fp_RX12_82 E hW rh0 dX12_least_2 (fun f1 H locs e2 n3 g4 hW => ?_)
  have hF := FM.tr hF g4 rfl
  refine lv_aload_n hx hb dX12_least_5 rfl (lv_at hl 0 rfl) ?_
  refine fg_RX12_8 E hW rh0 dX12_least_6 (fun a5 m6 r7 => ?_)
  obtain rfl : pR = a5 := (((fm_R g4 rh0 rfl).trans mR)).symm.trans m6
  refine lv_bipush (v := 8) hx hb dX12_least_9 (by decide) ?_
  refine gl_822 E hW rR (by decide) dX12_least_11 (fun y8 m9 b10 => ?_)
  have b11 := rr_8 (show RowInv _ from b10) m9 (by decide)
  refine lv_bipush (v := 13) hx hb dX12_least_12 (by decide) ?_
  refine q_idiv (Y := 13) hx hb dX12_least_14 rfl rfl (by omega) (by omega) (fun x12 h13 => ?_)
  refine lv_istore_n (lv' := [(3, .int x12), (0, .ref h0), (1, .int u1), (2, .int u2)]) hx hb dX12_least_15 rfl hl (by decide) rfl (fun ls hl => ?_)
  refine lv_aload_n hx hb dX12_least_16 rfl (lv_at hl 1 rfl) ?_
  refine lv_iload_n hx hb dX12_least_17 rfl (lv_at hl 2 rfl) ?_
  refine t_callV (As := [.int u1]) (rest := []) E hW (c_X12_isEstate l G cI cJ cZ cD cR cT kp L f1 hW.2.2.2 _ h0 u1 rh0) rh0 (by decide) rfl wk_X12_isEstate tw_1620 rfl ⟨Nat.le_of_ble_eq_true rfl, Nat.le_of_ble_eq_true rfl⟩ ⟨rfl, rfl⟩ hl.1 rfl (Nat.le_of_ble_eq_true rfl) dX12_least_18 ⟨Nat.le_of_ble_eq_true rfl, Nat.le_of_ble_eq_true rfl⟩ (fun v14 f15 H locs q16 hW => ?_)
  obtain ⟨⟨x18, rfl, p19⟩, g17⟩ := q16
  have hF := FM.tr hF g17 rfl
  refine q_if_eq (tgt := 54) hx hb dX12_least_21 (by decide) rfl (fun c20 => ?_) (fun c20 => ?_)
  · clear p19
    refine lv_iconst (v := (-1)) hx hb dX12_least_54 (by decide) ?_
    exact e_I E hW rfl ⟨⟨_, rfl, (by have hk : ((-1) : Int32).toInt = -1 := rfl; first | decide | omega)⟩, hF⟩ dX12_least_55
  · have q21 : 0 ≤ u1.toInt ∧ u1.toInt ≤ 7 := by omega
    clear p19
    refine lv_aload_n hx hb dX12_least_24 rfl (lv_at hl 1 rfl) ?_
    refine fg_RX12_8 E hW rh0 dX12_least_25 (fun a22 m23 r24 => ?_)
    obtain rfl : pR = a22 := (((fm_R g17 rh0 rfl).trans m6)).symm.trans m23
    refine lv_iload_n hx hb dX12_least_28 rfl (lv_at hl 2 rfl) ?_
    refine t_callS (As := [.int u1]) (rest := [.ref pR]) E hW (c_X12_estateAt l G cI cJ cZ cD cR cT kp L f15 hW.2.2.2 _ u1 (by omega)) wk_X12_estateAt tw_1611 rfl ⟨Nat.le_of_ble_eq_true rfl, Nat.le_of_ble_eq_true rfl⟩ ⟨rfl, rfl⟩ hl.1 rfl (Nat.le_of_ble_eq_true rfl) dX12_least_29 ⟨Nat.le_of_ble_eq_true rfl, Nat.le_of_ble_eq_true rfl⟩ (fun v25 f26 H locs q27 hW => ?_)
    obtain ⟨⟨x29, rfl, p30⟩, g28⟩ := q27
    have m31 : aI (f26 pR) (8 : Int32).toNatClampNeg = y8 := ((congrArg (fun z => aI z (8 : Int32).toNatClampNeg) (fm_A g28 rR (by decide) rfl)).trans ((congrArg (fun z => aI z (8 : Int32).toNatClampNeg) (fm_A g17 rR (by decide) rfl)).trans m9))
    have hF := FM.tr hF g28 rfl
    refine lv_iconst (v := 2) hx hb dX12_least_32 (by decide) ?_
    refine q_iadd (Y := 2) hx hb dX12_least_33 rfl rfl (by omega) (fun x32 h33 => ?_)
    refine gl_822 E hW rR ⟨by omega, by omega⟩ dX12_least_34 (fun y34 m35 b36 => ?_)
    refine lv_iconst (v := (-1)) hx hb dX12_least_35 (by decide) ?_
    refine q_icmp_ne (Y := -1) (tgt := 54) hx hb dX12_least_36 (by decide) rfl rfl (fun c37 => ?_) (fun c37 => ?_)
    · refine lv_iconst (v := (-1)) hx hb dX12_least_54 (by decide) ?_
      exact e_I E hW rfl ⟨⟨_, rfl, (by have hk : ((-1) : Int32).toInt = -1 := rfl; first | decide | omega)⟩, hF⟩ dX12_least_55
    · refine lv_iload_n hx hb dX12_least_39 rfl (lv_at hl 3 rfl) ?_
      refine q_i2l hx hb dX12_least_40 rfl (fun x38 h39 => ?_)
      have hb40 : -2147483648 ≤ x38.toInt ∧ x38.toInt ≤ 2147483647 := by have := i32_b u2; omega
      refine lv_iload_n hx hb dX12_least_41 rfl (lv_at hl 0 rfl) ?_
      refine q_i2l hx hb dX12_least_42 rfl (fun x41 h42 => ?_)
      refine q_lsub hx hb dX12_least_43 rfl rfl (by omega) (fun x43 h44 => ?_)
      refine lv_lconst (v := 1) hx hb dX12_least_44 (by decide) ?_
      refine lv_ldc2 (v := 8) hx hb hown (hts _ tw_2000) dX12_least_45 ?_
      refine t_callS (As := [.long x43, .long 1, .long 8]) (rest := []) E hW (c_X12_in l G cI cJ cZ cD cR cT kp L f26 hW.2.2.2 _ x43 1 8) wk_X12_in tw_1554 rfl ⟨Nat.le_of_ble_eq_true rfl, Nat.le_of_ble_eq_true rfl⟩ ⟨rfl, rfl⟩ hl.1 rfl (Nat.le_of_ble_eq_true rfl) dX12_least_48 ⟨Nat.le_of_ble_eq_true rfl, Nat.le_of_ble_eq_true rfl⟩ (fun v45 f46 H locs q47 hW => ?_)
      obtain ⟨⟨x49, rfl, p50⟩, g48⟩ := q47
      have p50 : (x49.toInt = 1 ∧ 1 ≤ x43.toInt ∧ x43.toInt ≤ 8) ∨ (x49.toInt = 0 ∧ (x43.toInt < 1 ∨ 8 < x43.toInt)) := p50
      have hF := FM.tr hF g48 rfl
      refine q_if_ne (tgt := 56) hx hb dX12_least_51 (by decide) rfl (fun c51 => ?_) (fun c51 => ?_)
      · have q52 : 1 ≤ x43.toInt ∧ x43.toInt ≤ 8 := by omega
        clear p50
        refine lv_aload_n hx hb dX12_least_56 rfl (lv_at hl 1 rfl) ?_
        refine t_callV (As := []) (rest := []) E hW (c_X12_forceNow l G cI cJ cZ cD cR cT kp L f46 hW.2.2.2 _ h0 rh0 (by rw [((fm_R g48 rh0 rfl).trans ((fm_R g28 rh0 rfl).trans m23))]; exact (by rw [fm_A hF rR (by decide) rfl]; exact hTX))) rh0 (by decide) rfl wk_X12_forceNow tw_1647 rfl ⟨Nat.le_of_ble_eq_true rfl, Nat.le_of_ble_eq_true rfl⟩ ⟨rfl, rfl⟩ hl.1 rfl (Nat.le_of_ble_eq_true rfl) dX12_least_57 ⟨Nat.le_of_ble_eq_true rfl, Nat.le_of_ble_eq_true rfl⟩ (fun v53 f54 H locs q55 hW => ?_)
        obtain ⟨rfl, g56⟩ := q55
        have m57 : aI (f54 pR) (8 : Int32).toNatClampNeg = y8 := ((congrArg (fun z => aI z (8 : Int32).toNatClampNeg) (fm_A g56 rR (by decide) rfl)).trans ((congrArg (fun z => aI z (8 : Int32).toNatClampNeg) (fm_A g48 rR (by decide) rfl)).trans m31))
        have m58 : aI (f54 pR) (x32 : Int32).toNatClampNeg = y34 := ((congrArg (fun z => aI z (x32 : Int32).toNatClampNeg) (fm_A g56 rR (by decide) rfl)).trans ((congrArg (fun z => aI z (x32 : Int32).toNatClampNeg) (fm_A g48 rR (by decide) rfl)).trans m35))
        have hF := FM.tr hF g56 rfl
        refine lv_iconst (v := 0) hx hb dX12_least_60 (by decide) ?_
        refine lv_istore (lv' := [(4, .int 0), (3, .int x12), (0, .ref h0), (1, .int u1), (2, .int u2)]) hx hb dX12_least_61 hl (by decide) rfl (fun ls hl => ?_)
        refine lv_lconst (v := 0) hx hb dX12_least_63 (by decide) ?_
        refine lv_lstore (lv' := [(5, .long 0), (4, .int 0), (3, .int x12), (0, .ref h0), (1, .int u1), (2, .int u2)]) hx hb dX12_least_64 hl (by decide) rfl (fun ls hl => ?_)
        refine lv_iconst (v := 0) hx hb dX12_least_66 (by decide) ?_
        refine lv_istore (lv' := [(7, .int 0), (5, .long 0), (4, .int 0), (3, .int x12), (0, .ref h0), (1, .int u1), (2, .int u2)]) hx hb dX12_least_67 hl (by decide) rfl (fun ls hl => ?_)
        have L6744 : ∀ (n : Nat), ∀ (f6734 : Nat → va_E) (y6738 : Int32) (y6740 : Int64) (y6741 : Int32) (m6735 : oI (f6734 h0) 0 = 0) (m6736 : oR (f6734 h0) 2 = pR) (m6737 : aI (f6734 pR) (8 : Int32).toNatClampNeg = y8) (b6739 : (0 : Int) ≤ y6738.toInt ∧ y6738.toInt ≤ 40) (b6742 : (0 : Int) ≤ y6741.toInt ∧ y6741.toInt ≤ 40) (v6743 : y6741.toInt ≤ y6738.toInt) (hm : (41 : Int) - y6738.toInt ≤ n) (H : Heap) (locs : List Loc) (ls : Array Slot), WS G cI cJ cZ cD cR cT A kp L f6734 s H locs → FM kp L ms_X12_least f0 f6734 → lv_has ls 10 [(7, .int y6738), (5, .long y6740), (4, .int y6741), (3, .int x12), (0, .ref h0), (1, .int u1), (2, .int u2)] → W p l e ({ frames := 6, cells := 0, slots := 0, locals := 163 }) s m ([.ref h0, .int u1, .int u2] : List Value).toArray below meth c H locs 0 0 (MQ below (QT (po_X12_least kp L f0 h0 u1 u2) G cI cJ cZ cD cR cT A kp L) ([.ref h0, .int u1, .int u2] : List Value).toArray s 0 0 A) (F0 m 69 ls []) := by
          intro n
          induction n with
          | zero =>
            intro f6734 y6738 y6740 y6741 m6735 m6736 m6737 b6739 b6742 v6743 hm H locs ls hW hF hl
            have hz := i32_b y6738
            exfalso; omega
          | succ n ih =>
            intro f6734 y6738 y6740 y6741 m6735 m6736 m6737 b6739 b6742 v6743 hm H locs ls hW hF hl
            clear c20 c37 c51 q52
            have ih69 := ih
            refine lv_iload hx hb dX12_least_69 (lv_at hl 0 rfl) ?_
            refine lv_aload_n hx hb dX12_least_71 rfl (lv_at hl 4 rfl) ?_
            refine fg_RX12_8 E hW rh0 dX12_least_72 (fun a6745 m6746 r6747 => ?_)
            obtain rfl : pR = a6745 := (m6736).symm.trans m6746
            refine lv_iconst (v := 2) hx hb dX12_least_75 (by decide) ?_
            refine gl_822 E hW rR (by decide) dX12_least_76 (fun y6748 m6749 b6750 => ?_)
            have b6751 := rr_2 (show RowInv _ from b6750) m6749 (by decide)
            refine q_icmp_ge (tgt := 200) hx hb dX12_least_77 (by decide) rfl rfl (fun c7094 => ?_) (fun c7094 => ?_)
            · refine lv_iconst (v := 0) hx hb dX12_least_200 (by decide) ?_
              refine lv_istore (lv' := [(7, .int 0), (5, .long y6740), (4, .int y6741), (3, .int x12), (0, .ref h0), (1, .int u1), (2, .int u2)]) hx hb dX12_least_201 hl (by decide) rfl (fun ls hl => ?_)
              have L7980 : ∀ (n : Nat), ∀ (f7972 : Nat → va_E) (y7977 : Int32) (y7979 : Int64) (m7973 : oI (f7972 h0) 0 = 0) (m7974 : oR (f7972 h0) 2 = pR) (m7975 : aI (f7972 pR) (8 : Int32).toNatClampNeg = y8) (m7976 : aI (f7972 pR) (2 : Int32).toNatClampNeg = y6748) (b7978 : (0 : Int) ≤ y7977.toInt ∧ y7977.toInt ≤ 41) (hm : (42 : Int) - y7977.toInt ≤ n) (H : Heap) (locs : List Loc) (ls : Array Slot), WS G cI cJ cZ cD cR cT A kp L f7972 s H locs → FM kp L ms_X12_least f0 f7972 → lv_has ls 10 [(7, .int y7977), (5, .long y7979), (4, .int y6741), (3, .int x12), (0, .ref h0), (1, .int u1), (2, .int u2)] → W p l e ({ frames := 6, cells := 0, slots := 0, locals := 163 }) s m ([.ref h0, .int u1, .int u2] : List Value).toArray below meth c H locs 0 0 (MQ below (QT (po_X12_least kp L f0 h0 u1 u2) G cI cJ cZ cD cR cT A kp L) ([.ref h0, .int u1, .int u2] : List Value).toArray s 0 0 A) (F0 m 203 ls []) := by
                intro n
                induction n with
                | zero =>
                  intro f7972 y7977 y7979 m7973 m7974 m7975 m7976 b7978 hm H locs ls hW hF hl
                  have hz := i32_b y7977
                  exfalso; omega
                | succ n ih =>
                  intro f7972 y7977 y7979 m7973 m7974 m7975 m7976 b7978 hm H locs ls hW hF hl
                  have ih203 := ih
                  refine lv_iload hx hb dX12_least_203 (lv_at hl 0 rfl) ?_
                  refine lv_iload hx hb dX12_least_205 (lv_at hl 2 rfl) ?_
                  refine q_icmp_gt (tgt := 256) hx hb dX12_least_207 (by decide) rfl rfl (fun c7981 => ?_) (fun c7981 => ?_)
                  · refine lv_iconst (v := (-1)) hx hb dX12_least_256 (by decide) ?_
                    exact e_I E hW rfl ⟨⟨_, rfl, (by have hk : ((-1) : Int32).toInt = -1 := rfl; first | decide | omega)⟩, hF⟩ dX12_least_257
                  · refine lv_aload_n hx hb dX12_least_210 rfl (lv_at hl 4 rfl) ?_
                    refine lv_iload_n hx hb dX12_least_211 rfl (lv_at hl 5 rfl) ?_
                    refine lv_lload hx hb dX12_least_212 (lv_at hl 1 rfl) ?_
                    refine lv_iload_n hx hb dX12_least_214 rfl (lv_at hl 6 rfl) ?_
                    refine lv_iload_n hx hb dX12_least_215 rfl (lv_at hl 3 rfl) ?_
                    refine u_isub hx hb dX12_least_216 (fun x7982 => ?_)
                    refine t_callV (As := [.int u1, .long y7979, .int x7982]) (rest := []) E hW (c_X12_falls l G cI cJ cZ cD cR cT kp L f7972 hW.2.2.2 _ h0 u1 y7979 x7982 rh0 (by omega)) rh0 (by decide) rfl wk_X12_falls tw_2001 rfl ⟨Nat.le_of_ble_eq_true rfl, Nat.le_of_ble_eq_true rfl⟩ ⟨rfl, rfl⟩ hl.1 rfl (Nat.le_of_ble_eq_true rfl) dX12_least_217 ⟨Nat.le_of_ble_eq_true rfl, Nat.le_of_ble_eq_true rfl⟩ (fun v7983 f7984 H locs q7985 hW => ?_)
                    obtain ⟨⟨x7987, rfl, p7988⟩, g7986⟩ := q7985
                    have hF := FM.tr hF g7986 rfl
                    refine q_if_eq (tgt := 226) hx hb dX12_least_220 (by decide) rfl (fun c7989 => ?_) (fun c7989 => ?_)
                    · refine lv_lload hx hb dX12_least_226 (lv_at hl 1 rfl) ?_
                      refine lv_iload hx hb dX12_least_228 (lv_at hl 0 rfl) ?_
                      refine lv_iload hx hb dX12_least_230 (lv_at hl 2 rfl) ?_
                      have J8001 : ∀ (y7999 : Int64) (b8000 : (-2147483648 : Int) ≤ y7999.toInt ∧ y7999.toInt ≤ 2147483647) (H : Heap) (locs : List Loc) (ls : Array Slot), WS G cI cJ cZ cD cR cT A kp L f7984 s H locs → FM kp L ms_X12_least f0 f7984 → lv_has ls 10 [(7, .int y7977), (5, .long y7979), (4, .int y6741), (3, .int x12), (0, .ref h0), (1, .int u1), (2, .int u2)] → W p l e ({ frames := 6, cells := 0, slots := 0, locals := 163 }) s m ([.ref h0, .int u1, .int u2] : List Value).toArray below meth c H locs 0 0 (MQ below (QT (po_X12_least kp L f0 h0 u1 u2) G cI cJ cZ cD cR cT A kp L) ([.ref h0, .int u1, .int u2] : List Value).toArray s 0 0 A) (F0 m 247 ls [.long y7999, .long y7979]) := by
                        intro y7999 b8000 H locs ls hW hF hl
                        clear p7988 c7989
                        refine u_lsub hx hb dX12_least_247 (fun x8002 => ?_)
                        refine lv_lstore (lv' := [(5, .long x8002), (7, .int y7977), (4, .int y6741), (3, .int x12), (0, .ref h0), (1, .int u1), (2, .int u2)]) hx hb dX12_least_248 hl (by decide) rfl (fun ls hl => ?_)
                        refine q_iinc hx hb dX12_least_250 hl (k := 1) rfl rfl rfl (by omega) (by decide) (fun i8003 ls h8004 hl => ?_)
                        have hl : lv_has ls 10 [(7, .int i8003), (5, .long x8002), (4, .int y6741), (3, .int x12), (0, .ref h0), (1, .int u1), (2, .int u2)] := hl
                        refine lv_goto (tgt := 203) hx hb dX12_least_253 (by decide) ?_
                        exact ih203 f7984 i8003 x8002 ((fm_I g7986 rh0 rfl).trans m7973) ((fm_R g7986 rh0 rfl).trans m7974) ((congrArg (fun z => aI z (8 : Int32).toNatClampNeg) (fm_A g7986 rR (by decide) rfl)).trans m7975) ((congrArg (fun z => aI z (2 : Int32).toNatClampNeg) (fm_A g7986 rR (by decide) rfl)).trans m7976) (by omega) (by omega) _ _ _ hW hF (lv_sub hl [0, 1, 2, 3, 4, 5, 6] rfl)
                      refine q_icmp_ge (tgt := 246) hx hb dX12_least_232 (by decide) rfl rfl (fun c8005 => ?_) (fun c8005 => ?_)
                      · refine lv_lconst (v := 0) hx hb dX12_least_246 (by decide) ?_
                        exact J8001 0 (by decide) _ _ _ hW hF (lv_sub hl [0, 1, 2, 3, 4, 5, 6] rfl)
                      · refine lv_aload_n hx hb dX12_least_235 rfl (lv_at hl 4 rfl) ?_
                        refine fg_RX12_70 E hW rh0 dX12_least_236 (fun a8006 m8007 r8008 => ?_)
                        refine lv_iload hx hb dX12_least_239 (lv_at hl 0 rfl) ?_
                        refine gl_860 E hW r8008 ⟨by omega, by omega⟩ dX12_least_241 (fun y8009 m8010 => ?_)
                        refine q_i2l hx hb dX12_least_242 rfl (fun x8012 h8013 => ?_)
                        have hb8014 : -2147483648 ≤ x8012.toInt ∧ x8012.toInt ≤ 2147483647 := by have := i32_b y8009; omega
                        refine lv_goto (tgt := 247) hx hb dX12_least_243 (by decide) ?_
                        exact J8001 x8012 (by omega) _ _ _ hW hF (lv_sub hl [0, 1, 2, 3, 4, 5, 6] rfl)
                    · refine lv_iload hx hb dX12_least_223 (lv_at hl 0 rfl) ?_
                      exact e_I E hW rfl ⟨⟨_, rfl, (by first | omega | trivial)⟩, hF⟩ dX12_least_225
              have hk8015 : (0 : Int32).toInt = 0 := rfl
              exact L7980 42 f6734 0 y6740 m6735 m6746 m6737 m6749 (by decide) (by omega) _ _ _ hW hF (lv_sub hl [0, 1, 2, 3, 4, 5, 6] rfl)
            · refine lv_aload_n hx hb dX12_least_80 rfl (lv_at hl 4 rfl) ?_
              refine fg_RX12_8 E hW rh0 dX12_least_81 (fun a8016 m8017 r8018 => ?_)
              obtain rfl : pR = a8016 := (m6746).symm.trans m8017
              refine lv_iload hx hb dX12_least_84 (lv_at hl 0 rfl) ?_
              refine t_callS (As := [.int y6738]) (rest := [.ref pR]) E hW (c_X12_fieldAt l G cI cJ cZ cD cR cT kp L f6734 hW.2.2.2 _ y6738 (by omega)) wk_X12_fieldAt tw_1624 rfl ⟨Nat.le_of_ble_eq_true rfl, Nat.le_of_ble_eq_true rfl⟩ ⟨rfl, rfl⟩ hl.1 rfl (Nat.le_of_ble_eq_true rfl) dX12_least_86 ⟨Nat.le_of_ble_eq_true rfl, Nat.le_of_ble_eq_true rfl⟩ (fun v8019 f8020 H locs q8021 hW => ?_)
              obtain ⟨⟨x8023, rfl, p8024⟩, g8022⟩ := q8021
              have hF := FM.tr hF g8022 rfl
              refine gl_822 E hW rR ⟨by omega, by omega⟩ dX12_least_89 (fun y8025 m8026 b8027 => ?_)
              have b8028 := rr_fest (show RowInv _ from b8027) m8026 (by omega)
              refine lv_iload_n hx hb dX12_least_90 rfl (lv_at hl 5 rfl) ?_
              have J8196 : ∀ (f8187 : Nat → va_E) (y8192 : Int64) (y8193 : Int32) (m8188 : oI (f8187 h0) 0 = 0) (m8189 : oR (f8187 h0) 2 = pR) (m8190 : aI (f8187 pR) (8 : Int32).toNatClampNeg = y8) (m8191 : aI (f8187 pR) (2 : Int32).toNatClampNeg = y6748) (b8194 : (0 : Int) ≤ y8193.toInt ∧ y8193.toInt ≤ 40) (v8195 : y8193.toInt ≤ y6738.toInt + 1) (H : Heap) (locs : List Loc) (ls : Array Slot), WS G cI cJ cZ cD cR cT A kp L f8187 s H locs → FM kp L ms_X12_least f0 f8187 → lv_has ls 10 [(7, .int y6738), (5, .long y8192), (4, .int y8193), (3, .int x12), (0, .ref h0), (1, .int u1), (2, .int u2)] → W p l e ({ frames := 6, cells := 0, slots := 0, locals := 163 }) s m ([.ref h0, .int u1, .int u2] : List Value).toArray below meth c H locs 0 0 (MQ below (QT (po_X12_least kp L f0 h0 u1 u2) G cI cJ cZ cD cR cT A kp L) ([.ref h0, .int u1, .int u2] : List Value).toArray s 0 0 A) (F0 m 194 ls []) := by
                intro f8187 y8192 y8193 m8188 m8189 m8190 m8191 b8194 v8195 H locs ls hW hF hl
                clear b8028
                refine q_iinc hx hb dX12_least_194 hl (k := 0) rfl rfl rfl (by omega) (by decide) (fun i8197 ls h8198 hl => ?_)
                have hl : lv_has ls 10 [(7, .int i8197), (5, .long y8192), (4, .int y8193), (3, .int x12), (0, .ref h0), (1, .int u1), (2, .int u2)] := hl
                refine lv_goto (tgt := 69) hx hb dX12_least_197 (by decide) ?_
                exact ih69 f8187 i8197 y8192 y8193 m8188 m8189 m8190 (by omega) (by omega) (by omega) (by omega) _ _ _ hW hF (lv_sub hl [0, 1, 2, 3, 4, 5, 6] rfl)
              refine q_icmp_ne (tgt := 194) hx hb dX12_least_91 (by decide) rfl rfl (fun c8199 => ?_) (fun c8199 => ?_)
              · exact J8196 f8020 y6740 y6741 ((fm_I g8022 rh0 rfl).trans m6735) ((fm_R g8022 rh0 rfl).trans m8017) ((congrArg (fun z => aI z (8 : Int32).toNatClampNeg) (fm_A g8022 rR (by decide) rfl)).trans m6737) ((congrArg (fun z => aI z (2 : Int32).toNatClampNeg) (fm_A g8022 rR (by decide) rfl)).trans m6749) (by omega) (by omega) _ _ _ hW hF (lv_sub hl [0, 1, 2, 3, 4, 5, 6] rfl)
              · refine lv_aload_n hx hb dX12_least_94 rfl (lv_at hl 4 rfl) ?_
                refine fg_RX12_8 E hW rh0 dX12_least_95 (fun a8200 m8201 r8202 => ?_)
                obtain rfl : pR = a8200 := (((fm_R g8022 rh0 rfl).trans m8017)).symm.trans m8201
                refine lv_iload hx hb dX12_least_98 (lv_at hl 0 rfl) ?_
                refine t_callS (As := [.int y6738]) (rest := [.ref pR]) E hW (c_X12_fieldAt l G cI cJ cZ cD cR cT kp L f8020 hW.2.2.2 _ y6738 (by omega)) wk_X12_fieldAt tw_1624 rfl ⟨Nat.le_of_ble_eq_true rfl, Nat.le_of_ble_eq_true rfl⟩ ⟨rfl, rfl⟩ hl.1 rfl (Nat.le_of_ble_eq_true rfl) dX12_least_100 ⟨Nat.le_of_ble_eq_true rfl, Nat.le_of_ble_eq_true rfl⟩ (fun v8203 f8204 H locs q8205 hW => ?_)
                obtain ⟨⟨x8207, rfl, p8208⟩, g8206⟩ := q8205
                have m8209 : aI (f8204 pR) (8 : Int32).toNatClampNeg = y8 := ((congrArg (fun z => aI z (8 : Int32).toNatClampNeg) (fm_A g8206 rR (by decide) rfl)).trans ((congrArg (fun z => aI z (8 : Int32).toNatClampNeg) (fm_A g8022 rR (by decide) rfl)).trans m6737))
                have m8210 : aI (f8204 pR) (2 : Int32).toNatClampNeg = y6748 := ((congrArg (fun z => aI z (2 : Int32).toNatClampNeg) (fm_A g8206 rR (by decide) rfl)).trans ((congrArg (fun z => aI z (2 : Int32).toNatClampNeg) (fm_A g8022 rR (by decide) rfl)).trans m6749))
                have hF := FM.tr hF g8206 rfl
                refine lv_iconst (v := 3) hx hb dX12_least_103 (by decide) ?_
                refine q_iadd (Y := 3) hx hb dX12_least_104 rfl rfl (by omega) (fun x8211 h8212 => ?_)
                refine gl_822 E hW rR ⟨by omega, by omega⟩ dX12_least_105 (fun y8213 m8214 b8215 => ?_)
                have b8216 := rr_fhol (show RowInv _ from b8215) m8214 (by omega)
                refine lv_iconst (v := (-1)) hx hb dX12_least_106 (by decide) ?_
                refine q_icmp_eq (Y := -1) (tgt := 194) hx hb dX12_least_107 (by decide) rfl rfl (fun c8217 => ?_) (fun c8217 => ?_)
                · exact J8196 f8204 y6740 y6741 ((fm_I g8206 rh0 rfl).trans ((fm_I g8022 rh0 rfl).trans m6735)) ((fm_R g8206 rh0 rfl).trans m8201) m8209 m8210 (by omega) (by omega) _ _ _ hW hF (lv_sub hl [0, 1, 2, 3, 4, 5, 6] rfl)
                · refine lv_lload hx hb dX12_least_110 (lv_at hl 1 rfl) ?_
                  refine lv_aload_n hx hb dX12_least_112 rfl (lv_at hl 4 rfl) ?_
                  refine lv_iload hx hb dX12_least_113 (lv_at hl 0 rfl) ?_
                  refine t_callV (As := [.int y6738]) (rest := [.long y6740]) E hW (c_X12_rentOf l G cI cJ cZ cD cR cT kp L f8204 hW.2.2.2 _ h0 y6738 rh0 (by omega)) rh0 (by decide) rfl wk_X12_rentOf tw_1665 rfl ⟨Nat.le_of_ble_eq_true rfl, Nat.le_of_ble_eq_true rfl⟩ ⟨rfl, rfl⟩ hl.1 rfl (Nat.le_of_ble_eq_true rfl) dX12_least_115 ⟨Nat.le_of_ble_eq_true rfl, Nat.le_of_ble_eq_true rfl⟩ (fun v8218 f8219 H locs q8220 hW => ?_)
                  obtain ⟨⟨x8222, rfl, p8223⟩, g8221⟩ := q8220
                  have m8224 : aI (f8219 pR) (x8023 : Int32).toNatClampNeg = y8025 := ((congrArg (fun z => aI z (x8023 : Int32).toNatClampNeg) (fm_A g8221 rR (by decide) rfl)).trans ((congrArg (fun z => aI z (x8023 : Int32).toNatClampNeg) (fm_A g8206 rR (by decide) rfl)).trans m8026))
                  have hF := FM.tr hF g8221 rfl
                  refine q_i2l hx hb dX12_least_118 rfl (fun x8225 h8226 => ?_)
                  have hb8227 : -2147483648 ≤ x8225.toInt ∧ x8225.toInt ≤ 2147483647 := by have := i32_b x8222; omega
                  refine u_ladd hx hb dX12_least_119 (fun x8228 => ?_)
                  refine lv_lstore (lv' := [(5, .long x8228), (7, .int y6738), (4, .int y6741), (3, .int x12), (0, .ref h0), (1, .int u1), (2, .int u2)]) hx hb dX12_least_120 hl (by decide) rfl (fun ls hl => ?_)
                  refine lv_aload_n hx hb dX12_least_122 rfl (lv_at hl 4 rfl) ?_
                  refine lv_iload hx hb dX12_least_123 (lv_at hl 1 rfl) ?_
                  refine t_callV (As := [.int y6738]) (rest := []) E hW (c_X12_rentOf l G cI cJ cZ cD cR cT kp L f8219 hW.2.2.2 _ h0 y6738 rh0 (by omega)) rh0 (by decide) rfl wk_X12_rentOf tw_1665 rfl ⟨Nat.le_of_ble_eq_true rfl, Nat.le_of_ble_eq_true rfl⟩ ⟨rfl, rfl⟩ hl.1 rfl (Nat.le_of_ble_eq_true rfl) dX12_least_125 ⟨Nat.le_of_ble_eq_true rfl, Nat.le_of_ble_eq_true rfl⟩ (fun v8229 f8230 H locs q8231 hW => ?_)
                  obtain ⟨⟨x8233, rfl, p8234⟩, g8232⟩ := q8231
                  have m8235 : aI (f8230 pR) (8 : Int32).toNatClampNeg = y8 := ((congrArg (fun z => aI z (8 : Int32).toNatClampNeg) (fm_A g8232 rR (by decide) rfl)).trans ((congrArg (fun z => aI z (8 : Int32).toNatClampNeg) (fm_A g8221 rR (by decide) rfl)).trans m8209))
                  have m8236 : aI (f8230 pR) (2 : Int32).toNatClampNeg = y6748 := ((congrArg (fun z => aI z (2 : Int32).toNatClampNeg) (fm_A g8232 rR (by decide) rfl)).trans ((congrArg (fun z => aI z (2 : Int32).toNatClampNeg) (fm_A g8221 rR (by decide) rfl)).trans m8210))
                  have m8237 : aI (f8230 pR) (x8211 : Int32).toNatClampNeg = y8213 := ((congrArg (fun z => aI z (x8211 : Int32).toNatClampNeg) (fm_A g8232 rR (by decide) rfl)).trans ((congrArg (fun z => aI z (x8211 : Int32).toNatClampNeg) (fm_A g8221 rR (by decide) rfl)).trans m8214))
                  have hF := FM.tr hF g8232 rfl
                  refine lv_aload_n hx hb dX12_least_128 rfl (lv_at hl 4 rfl) ?_
                  refine lv_iload hx hb dX12_least_129 (lv_at hl 1 rfl) ?_
                  refine t_callV (As := [.int y6738]) (rest := [.int x8233]) E hW (c_X12_fairOf l G cI cJ cZ cD cR cT kp L f8230 hW.2.2.2 _ h0 y6738 rh0 (by omega) (by rw [((fm_R g8232 rh0 rfl).trans ((fm_R g8221 rh0 rfl).trans ((fm_R g8206 rh0 rfl).trans m8201)))]; exact (by rw [fm_A hF rR (by decide) rfl]; exact hTX))) rh0 (by decide) rfl wk_X12_fairOf tw_1661 rfl ⟨Nat.le_of_ble_eq_true rfl, Nat.le_of_ble_eq_true rfl⟩ ⟨rfl, rfl⟩ hl.1 rfl (Nat.le_of_ble_eq_true rfl) dX12_least_131 ⟨Nat.le_of_ble_eq_true rfl, Nat.le_of_ble_eq_true rfl⟩ (fun v8238 f8239 H locs q8240 hW => ?_)
                  obtain ⟨⟨x8242, rfl, p8243⟩, g8241⟩ := q8240
                  clear p8243
                  have m8244 : aI (f8239 pR) (x8023 : Int32).toNatClampNeg = y8025 := ((congrArg (fun z => aI z (x8023 : Int32).toNatClampNeg) (fm_A g8241 rR (by decide) rfl)).trans ((congrArg (fun z => aI z (x8023 : Int32).toNatClampNeg) (fm_A g8232 rR (by decide) rfl)).trans m8224))
                  have hF := FM.tr hF g8241 rfl
                  refine u_isub hx hb dX12_least_134 (fun x8245 => ?_)
                  refine lv_istore (lv' := [(8, .int x8245), (5, .long x8228), (7, .int y6738), (4, .int y6741), (3, .int x12), (0, .ref h0), (1, .int u1), (2, .int u2)]) hx hb dX12_least_135 hl (by decide) rfl (fun ls hl => ?_)
                  refine lv_iload hx hb dX12_least_137 (lv_at hl 3 rfl) ?_
                  refine lv_istore (lv' := [(9, .int y6741), (8, .int x8245), (5, .long x8228), (7, .int y6738), (4, .int y6741), (3, .int x12), (0, .ref h0), (1, .int u1), (2, .int u2)]) hx hb dX12_least_139 hl (by decide) rfl (fun ls hl => ?_)
                  have L8294 : ∀ (n : Nat), ∀ (f8285 : Nat → va_E) (y8290 : Int32) (m8286 : oI (f8285 h0) 0 = 0) (m8287 : oR (f8285 h0) 2 = pR) (m8288 : aI (f8285 pR) (8 : Int32).toNatClampNeg = y8) (m8289 : aI (f8285 pR) (2 : Int32).toNatClampNeg = y6748) (b8291 : (0 : Int) ≤ y8290.toInt ∧ y8290.toInt ≤ 40) (v8292 : y6741.toInt ≤ y6738.toInt) (v8293 : y8290.toInt ≤ y6741.toInt) (hm : y8290.toInt - (-1 : Int) ≤ n) (H : Heap) (locs : List Loc) (ls : Array Slot), WS G cI cJ cZ cD cR cT A kp L f8285 s H locs → FM kp L ms_X12_least f0 f8285 → lv_has ls 10 [(9, .int y8290), (8, .int x8245), (5, .long x8228), (7, .int y6738), (4, .int y6741), (3, .int x12), (0, .ref h0), (1, .int u1), (2, .int u2)] → W p l e ({ frames := 6, cells := 0, slots := 0, locals := 163 }) s m ([.ref h0, .int u1, .int u2] : List Value).toArray below meth c H locs 0 0 (MQ below (QT (po_X12_least kp L f0 h0 u1 u2) G cI cJ cZ cD cR cT A kp L) ([.ref h0, .int u1, .int u2] : List Value).toArray s 0 0 A) (F0 m 141 ls []) := by
                    intro n
                    induction n with
                    | zero =>
                      intro f8285 y8290 m8286 m8287 m8288 m8289 b8291 v8292 v8293 hm H locs ls hW hF hl
                      have hz := i32_b y8290
                      exfalso; omega
                    | succ n ih =>
                      intro f8285 y8290 m8286 m8287 m8288 m8289 b8291 v8292 v8293 hm H locs ls hW hF hl
                      clear b8216 c8217 p8223 h8226 hb8227 p8234
                      have ih141 := ih
                      refine lv_iload hx hb dX12_least_141 (lv_at hl 0 rfl) ?_
                      have J8325 : ∀ (v8324 : y6741.toInt ≤ y6738.toInt) (H : Heap) (locs : List Loc) (ls : Array Slot), WS G cI cJ cZ cD cR cT A kp L f8285 s H locs → FM kp L ms_X12_least f0 f8285 → lv_has ls 10 [(9, .int y8290), (8, .int x8245), (5, .long x8228), (7, .int y6738), (4, .int y6741), (3, .int x12), (0, .ref h0), (1, .int u1), (2, .int u2)] → W p l e ({ frames := 6, cells := 0, slots := 0, locals := 163 }) s m ([.ref h0, .int u1, .int u2] : List Value).toArray below meth c H locs 0 0 (MQ below (QT (po_X12_least kp L f0 h0 u1 u2) G cI cJ cZ cD cR cT A kp L) ([.ref h0, .int u1, .int u2] : List Value).toArray s 0 0 A) (F0 m 182 ls []) := by
                        intro  v8324 H locs ls hW hF hl
                        refine lv_aload_n hx hb dX12_least_182 rfl (lv_at hl 6 rfl) ?_
                        refine fg_RX12_70 E hW rh0 dX12_least_183 (fun a8326 m8327 r8328 => ?_)
                        refine lv_iload hx hb dX12_least_186 (lv_at hl 0 rfl) ?_
                        refine lv_iload hx hb dX12_least_188 (lv_at hl 1 rfl) ?_
                        refine gs_860 E hW r8328 ⟨by omega, by omega⟩ dX12_least_190 (fun f8329 H locs e8330 n8331 g8332 hW => ?_)
                        have hF := FM.tr hF g8332 rfl
                        refine q_iinc hx hb dX12_least_191 hl (k := 4) rfl rfl rfl (by omega) (by decide) (fun i8333 ls h8334 hl => ?_)
                        have hl : lv_has ls 10 [(4, .int i8333), (9, .int y8290), (8, .int x8245), (5, .long x8228), (7, .int y6738), (3, .int x12), (0, .ref h0), (1, .int u1), (2, .int u2)] := hl
                        exact J8196 f8329 x8228 i8333 ((fm_I g8332 rh0 rfl).trans m8286) ((fm_R g8332 rh0 rfl).trans m8287) ((congrArg (fun z => aI z (8 : Int32).toNatClampNeg) (fm_A g8332 rR (by decide) rfl)).trans m8288) ((congrArg (fun z => aI z (2 : Int32).toNatClampNeg) (fm_A g8332 rR (by decide) rfl)).trans m8289) (by omega) (by omega) _ _ _ hW hF (lv_sub hl [4, 3, 0, 5, 6, 7, 8] rfl)
                      refine q_if_le (tgt := 182) hx hb dX12_least_143 (by decide) rfl (fun c8335 => ?_) (fun c8335 => ?_)
                      · exact J8325  (by omega) _ _ _ hW hF (lv_sub hl [0, 1, 2, 3, 4, 5, 6, 7, 8] rfl)
                      · refine lv_aload_n hx hb dX12_least_146 rfl (lv_at hl 6 rfl) ?_
                        refine fg_RX12_70 E hW rh0 dX12_least_147 (fun a8336 m8337 r8338 => ?_)
                        refine lv_iload hx hb dX12_least_150 (lv_at hl 0 rfl) ?_
                        refine lv_iconst (v := 1) hx hb dX12_least_152 (by decide) ?_
                        refine q_isub (Y := 1) hx hb dX12_least_153 rfl rfl (by omega) (fun x8339 h8340 => ?_)
                        refine gl_860 E hW r8338 ⟨by omega, by omega⟩ dX12_least_154 (fun y8341 m8342 => ?_)
                        refine lv_iload hx hb dX12_least_155 (lv_at hl 1 rfl) ?_
                        refine q_icmp_ge (tgt := 182) hx hb dX12_least_157 (by decide) rfl rfl (fun c8344 => ?_) (fun c8344 => ?_)
                        · exact J8325  (by omega) _ _ _ hW hF (lv_sub hl [0, 1, 2, 3, 4, 5, 6, 7, 8] rfl)
                        · have hb8345 : y8341.toInt ≤ 2147483646 := by have := i32_b x8245; omega
                          have hb8346 : -2147483647 ≤ x8245.toInt := by have := i32_b y8341; omega
                          refine lv_aload_n hx hb dX12_least_160 rfl (lv_at hl 6 rfl) ?_
                          refine fg_RX12_70 E hW rh0 dX12_least_161 (fun a8347 m8348 r8349 => ?_)
                          obtain rfl : a8336 = a8347 := (m8337).symm.trans m8348
                          refine lv_iload hx hb dX12_least_164 (lv_at hl 0 rfl) ?_
                          refine lv_aload_n hx hb dX12_least_166 rfl (lv_at hl 6 rfl) ?_
                          refine fg_RX12_70 E hW rh0 dX12_least_167 (fun a8350 m8351 r8352 => ?_)
                          obtain rfl : a8336 = a8350 := (m8348).symm.trans m8351
                          refine lv_iload hx hb dX12_least_170 (lv_at hl 0 rfl) ?_
                          refine lv_iconst (v := 1) hx hb dX12_least_172 (by decide) ?_
                          refine q_isub (Y := 1) hx hb dX12_least_173 rfl rfl (by omega) (fun x8353 h8354 => ?_)
                          refine gl_860 E hW r8338 ⟨by omega, by omega⟩ dX12_least_174 (fun y8355 m8356 => ?_)
                          have m8358 : aI (f8285 a8336) (x8353 : Int32).toNatClampNeg = y8341 := by rw [show (x8353 : Int32) = x8339 from Int32.toInt_inj.mp (by omega)]; exact m8342
                          obtain rfl : y8341 = y8355 := (m8358).symm.trans m8356
                          refine gs_860 E hW r8338 ⟨by omega, by omega⟩ dX12_least_175 (fun f8359 H locs e8360 n8361 g8362 hW => ?_)
                          have hF := FM.tr hF g8362 rfl
                          refine q_iinc hx hb dX12_least_176 hl (k := 0) rfl rfl rfl (by omega) (by decide) (fun i8363 ls h8364 hl => ?_)
                          have hl : lv_has ls 10 [(9, .int i8363), (8, .int x8245), (5, .long x8228), (7, .int y6738), (4, .int y6741), (3, .int x12), (0, .ref h0), (1, .int u1), (2, .int u2)] := hl
                          refine lv_goto (tgt := 141) hx hb dX12_least_179 (by decide) ?_
                          exact ih141 f8359 i8363 ((fm_I g8362 rh0 rfl).trans m8286) ((fm_R g8362 rh0 rfl).trans m8287) ((congrArg (fun z => aI z (8 : Int32).toNatClampNeg) (fm_A g8362 rR (by decide) rfl)).trans m8288) ((congrArg (fun z => aI z (2 : Int32).toNatClampNeg) (fm_A g8362 rR (by decide) rfl)).trans m8289) (by omega) (by omega) (by omega) (by omega) _ _ _ hW hF (lv_sub hl [0, 1, 2, 3, 4, 5, 6, 7, 8] rfl)
                  exact L8294 41 f8239 y6741 ((fm_I g8241 rh0 rfl).trans ((fm_I g8232 rh0 rfl).trans ((fm_I g8221 rh0 rfl).trans ((fm_I g8206 rh0 rfl).trans ((fm_I g8022 rh0 rfl).trans m6735))))) ((fm_R g8241 rh0 rfl).trans ((fm_R g8232 rh0 rfl).trans ((fm_R g8221 rh0 rfl).trans ((fm_R g8206 rh0 rfl).trans m8201)))) ((congrArg (fun z => aI z (8 : Int32).toNatClampNeg) (fm_A g8241 rR (by decide) rfl)).trans m8235) ((congrArg (fun z => aI z (2 : Int32).toNatClampNeg) (fm_A g8241 rR (by decide) rfl)).trans m8236) (by omega) (by omega) (by omega) (by omega) _ _ _ hW hF (lv_sub hl [0, 1, 2, 3, 4, 5, 6, 7, 8] rfl)
        have hk8365 : (0 : Int32).toInt = 0 := rfl
        have hk8366 : (0 : Int64).toInt = 0 := rfl
        have hk8367 : (0 : Int32).toInt = 0 := rfl
        exact L6744 41 f54 0 0 0 ((fm_I g56 rh0 rfl).trans ((fm_I g48 rh0 rfl).trans ((fm_I g28 rh0 rfl).trans ((fm_I g17 rh0 rfl).trans e2)))) ((fm_R g56 rh0 rfl).trans ((fm_R g48 rh0 rfl).trans ((fm_R g28 rh0 rfl).trans m23))) m57 (by decide) (by decide) (by omega) (by omega) _ _ _ hW hF (lv_sub hl [0, 1, 2, 3, 4, 5, 6] rfl)
      · have q8368 : (x43.toInt < 1 ∨ 8 < x43.toInt) := by omega
        clear p50
        refine lv_iconst (v := (-1)) hx hb dX12_least_54 (by decide) ?_
        exact e_I E hW rfl ⟨⟨_, rfl, (by have hk : ((-1) : Int32).toInt = -1 := rfl; first | decide | omega)⟩, hF⟩ dX12_least_55
def rw_X12_chests : List (Nat × Nat) := [(4, 4), (8, 9), (13, 1043)]
def ms_X12_chests : List (Nat × Nat) := [(12, 33), (12, 34), (12, 35), (12, 36), (12, 37), (12, 38), (822, 0), (849, 0), (850, 0), (851, 0), (852, 0), (859, 0)]
def po_X12_chests (kp : Nat → Nat) (L : List Nat) (f0 : Nat → va_E) (h0 : Nat) (u1 : Int32) : Option Value → (Nat → va_E) → Prop := fun v f => (∃ r : Int64, v = some (.long r) ∧ (True)) ∧ FM kp L ms_X12_chests f0 f ∧ (RF rw_X12_chests f0 f h0)
set_option maxHeartbeats 4000000 in
set_option maxRecDepth 100000 in
theorem c_X12_chests (l : Launch) (G : va_G) (cI cJ cZ cD cR cT : ClassId) (kp : Nat → Nat) (L : List Nat) (f0 : Nat → va_E) (hTH : TH cI cJ cZ cD cR cT kp L f0) (sz : Nat) (h0 : Nat) (u1 : Int32) (rh0 : RK kp L h0 12) (pu1 : (1 : Int) ≤ u1.toInt ∧ u1.toInt ≤ 104) (hq8 : (aI (f0 (oR (f0 h0) 2)) (8 : Int32).toNatClampNeg).toInt + u1.toInt ≤ 399) (hTX : TX (aI (f0 (oR (f0 h0) 2)))) : Met l yX12_chests (Cond.code yX12_chests cX12_chests 5 (some .long) :: wTab) ({ frames := 8, cells := 0, slots := 0, locals := 213 }) (va_Pc [.ref h0, .int u1] (PreW G (tys6 cI cJ cZ cD cR cT) (va_pl L f0) sz)) (QT (po_X12_chests kp L f0 h0 u1) G cI cJ cZ cD cR cT (va_A (va_pl L f0) sz) kp L) 0 0 (va_A (va_pl L f0) sz) := by
  refine metT (by decide) (Nat.le_of_ble_eq_true rfl) hTH ?_
  intro p e s m below meth c A ls E hW hl
  obtain ⟨hx, hb, -, hml, hown, hts, -, -, -⟩ := id E
  have hF : FM kp L ms_X12_chests f0 f0 := FM.rf
  have hl : lv_has ls 5 [(0, .ref h0), (1, .int u1)] := hl
  obtain ⟨pR, mR⟩ : ∃ x : Nat, oR (f0 h0) 2 = x := ⟨_, rfl⟩
  have rR : RK kp L pR 822 := by rw [← mR]; exact th_ref hTH rh0 (by decide) (by decide) rfl
  obtain ⟨p8, mp8⟩ : ∃ x : Int32, aI (f0 pR) (8 : Int32).toNatClampNeg = x := ⟨_, rfl⟩
  have hr8 : (0 : Int) ≤ p8.toInt ∧ p8.toInt ≤ 399 := rr_8 (th_row hTH rR) mp8 rfl
  rw [mR, mp8] at hq8
  rw [mR] at hTX
  refine lv_iconst (v := 0) hx hb dX12_chests_0 (by decide) ?_
  refine lv_istore_n (lv' := [(2, .int 0), (0, .ref h0), (1, .int u1)]) hx hb dX12_chests_1 rfl hl (by decide) rfl (fun ls hl => ?_)
  have L802 : ∀ (n : Nat), ∀ (f793 : Nat → va_E) (y795 : Int32) (y797 : Int32) (m794 : oR (f793 h0) 2 = pR) (b796 : (0 : Int) ≤ y795.toInt ∧ y795.toInt ≤ 104) (m798 : aI (f793 pR) (8 : Int32).toNatClampNeg = y797) (b799 : (0 : Int) ≤ y797.toInt ∧ y797.toInt ≤ 399) (z800 : RF rw_X12_chests f0 f793 h0) (v801 : y797.toInt = p8.toInt + y795.toInt) (hm : (105 : Int) - y795.toInt ≤ n) (H : Heap) (locs : List Loc) (ls : Array Slot), WS G cI cJ cZ cD cR cT A kp L f793 s H locs → FM kp L ms_X12_chests f0 f793 → lv_has ls 5 [(2, .int y795), (0, .ref h0), (1, .int u1)] → W p l e ({ frames := 8, cells := 0, slots := 0, locals := 213 }) s m ([.ref h0, .int u1] : List Value).toArray below meth c H locs 0 0 (MQ below (QT (po_X12_chests kp L f0 h0 u1) G cI cJ cZ cD cR cT A kp L) ([.ref h0, .int u1] : List Value).toArray s 0 0 A) (F0 m 2 ls []) := by
    intro n
    induction n with
    | zero =>
      intro f793 y795 y797 m794 b796 m798 b799 z800 v801 hm H locs ls hW hF hl
      have hz := i32_b y795
      exfalso; omega
    | succ n ih =>
      intro f793 y795 y797 m794 b796 m798 b799 z800 v801 hm H locs ls hW hF hl
      have ih2 := ih
      refine lv_iload_n hx hb dX12_chests_2 rfl (lv_at hl 0 rfl) ?_
      refine lv_iload_n hx hb dX12_chests_3 rfl (lv_at hl 2 rfl) ?_
      refine q_icmp_ge (tgt := 17) hx hb dX12_chests_4 (by decide) rfl rfl (fun c815 => ?_) (fun c815 => ?_)
      · refine lv_lconst (v := 0) hx hb dX12_chests_17 (by decide) ?_
        refine lv_lstore_n (lv' := [(2, .long 0), (0, .ref h0), (1, .int u1)]) hx hb dX12_chests_18 rfl hl (by decide) rfl (fun ls hl => ?_)
        refine lv_iconst (v := 0) hx hb dX12_chests_19 (by decide) ?_
        refine lv_istore (lv' := [(4, .int 0), (2, .long 0), (0, .ref h0), (1, .int u1)]) hx hb dX12_chests_20 hl (by decide) rfl (fun ls hl => ?_)
        have L1165 : ∀ (n : Nat), ∀ (f1158 : Nat → va_E) (y1161 : Int32) (y1163 : Int64) (m1159 : oR (f1158 h0) 2 = pR) (m1160 : aI (f1158 pR) (8 : Int32).toNatClampNeg = y797) (b1162 : (0 : Int) ≤ y1161.toInt ∧ y1161.toInt ≤ 8) (z1164 : RF rw_X12_chests f0 f1158 h0) (hm : (9 : Int) - y1161.toInt ≤ n) (H : Heap) (locs : List Loc) (ls : Array Slot), WS G cI cJ cZ cD cR cT A kp L f1158 s H locs → FM kp L ms_X12_chests f0 f1158 → lv_has ls 5 [(4, .int y1161), (2, .long y1163), (0, .ref h0), (1, .int u1)] → W p l e ({ frames := 8, cells := 0, slots := 0, locals := 213 }) s m ([.ref h0, .int u1] : List Value).toArray below meth c H locs 0 0 (MQ below (QT (po_X12_chests kp L f0 h0 u1) G cI cJ cZ cD cR cT A kp L) ([.ref h0, .int u1] : List Value).toArray s 0 0 A) (F0 m 22 ls []) := by
          intro n
          induction n with
          | zero =>
            intro f1158 y1161 y1163 m1159 m1160 b1162 z1164 hm H locs ls hW hF hl
            have hz := i32_b y1161
            exfalso; omega
          | succ n ih =>
            intro f1158 y1161 y1163 m1159 m1160 b1162 z1164 hm H locs ls hW hF hl
            have ih22 := ih
            refine lv_iload hx hb dX12_chests_22 (lv_at hl 0 rfl) ?_
            refine lv_aload_n hx hb dX12_chests_24 rfl (lv_at hl 2 rfl) ?_
            refine fg_RX12_8 E hW rh0 dX12_chests_25 (fun a1166 m1167 r1168 => ?_)
            obtain rfl : pR = a1166 := (m1159).symm.trans m1167
            refine lv_iconst (v := 1) hx hb dX12_chests_28 (by decide) ?_
            refine gl_822 E hW rR (by decide) dX12_chests_29 (fun y1169 m1170 b1171 => ?_)
            have b1172 := rr_1 (show RowInv _ from b1171) m1170 (by decide)
            refine q_icmp_ge (tgt := 53) hx hb dX12_chests_30 (by decide) rfl rfl (fun c1192 => ?_) (fun c1192 => ?_)
            · refine lv_lload_n hx hb dX12_chests_53 rfl (lv_at hl 1 rfl) ?_
              exact e_J E hW rfl ⟨⟨_, rfl, trivial⟩, hF, z1164⟩ dX12_chests_54
            · refine lv_lload_n hx hb dX12_chests_33 rfl (lv_at hl 1 rfl) ?_
              refine lv_aload_n hx hb dX12_chests_34 rfl (lv_at hl 2 rfl) ?_
              refine fg_RX12_8 E hW rh0 dX12_chests_35 (fun a1193 m1194 r1195 => ?_)
              obtain rfl : pR = a1193 := (m1167).symm.trans m1194
              refine lv_iload hx hb dX12_chests_38 (lv_at hl 0 rfl) ?_
              refine t_callS (As := [.int y1161]) (rest := [.ref pR, .long y1163]) E hW (c_X12_estateAt l G cI cJ cZ cD cR cT kp L f1158 hW.2.2.2 _ y1161 (by omega)) wk_X12_estateAt tw_1611 rfl ⟨Nat.le_of_ble_eq_true rfl, Nat.le_of_ble_eq_true rfl⟩ ⟨rfl, rfl⟩ hl.1 rfl (Nat.le_of_ble_eq_true rfl) dX12_chests_40 ⟨Nat.le_of_ble_eq_true rfl, Nat.le_of_ble_eq_true rfl⟩ (fun v1196 f1197 H locs q1198 hW => ?_)
              obtain ⟨⟨x1200, rfl, p1201⟩, g1199⟩ := q1198
              have z1202 : RF rw_X12_chests f0 f1197 h0 := rf_fm hTH z1164 g1199 rh0 rfl
              have hF := FM.tr hF g1199 rfl
              refine gl_822 E hW rR ⟨by omega, by omega⟩ dX12_chests_43 (fun y1203 m1204 b1205 => ?_)
              refine q_i2l hx hb dX12_chests_44 rfl (fun x1206 h1207 => ?_)
              have hb1208 : -2147483648 ≤ x1206.toInt ∧ x1206.toInt ≤ 2147483647 := by have := i32_b y1203; omega
              refine u_ladd hx hb dX12_chests_45 (fun x1209 => ?_)
              refine lv_lstore_n (lv' := [(2, .long x1209), (4, .int y1161), (0, .ref h0), (1, .int u1)]) hx hb dX12_chests_46 rfl hl (by decide) rfl (fun ls hl => ?_)
              refine q_iinc hx hb dX12_chests_47 hl (k := 1) rfl rfl rfl (by omega) (by decide) (fun i1210 ls h1211 hl => ?_)
              have hl : lv_has ls 5 [(4, .int i1210), (2, .long x1209), (0, .ref h0), (1, .int u1)] := hl
              refine lv_goto (tgt := 22) hx hb dX12_chests_50 (by decide) ?_
              exact ih22 f1197 i1210 x1209 ((fm_R g1199 rh0 rfl).trans m1194) ((congrArg (fun z => aI z (8 : Int32).toNatClampNeg) (fm_A g1199 rR (by decide) rfl)).trans m1160) (by omega) z1202 (by omega) _ _ _ hW hF (lv_sub hl [0, 1, 2, 3] rfl)
        have hk1212 : (0 : Int32).toInt = 0 := rfl
        have hk1213 : (0 : Int64).toInt = 0 := rfl
        exact L1165 9 f793 0 0 m794 m798 (by decide) z800 (by omega) _ _ _ hW hF (lv_sub hl [0, 1, 2, 3] rfl)
      · refine lv_aload_n hx hb dX12_chests_7 rfl (lv_at hl 1 rfl) ?_
        refine t_callV (As := []) (rest := []) E hW (c_X12_goWeek l G cI cJ cZ cD cR cT kp L f793 hW.2.2.2 _ h0 rh0 (by rw [m794, m798]; omega) (by rw [m794]; exact (tx_rf hTX z800 mR rfl rfl))) rh0 (by decide) rfl wk_X12_goWeek tw_1918 rfl ⟨Nat.le_of_ble_eq_true rfl, Nat.le_of_ble_eq_true rfl⟩ ⟨rfl, rfl⟩ hl.1 rfl (Nat.le_of_ble_eq_true rfl) dX12_chests_8 ⟨Nat.le_of_ble_eq_true rfl, Nat.le_of_ble_eq_true rfl⟩ (fun v1214 f1215 H locs q1216 hW => ?_)
        obtain ⟨rfl, g1217, h1218, h1219⟩ := q1216
        have z1220 : RF rw_X12_chests f0 f1215 h0 := rf_call z800 h1219 mR m794 rfl
        have hF := FM.tr hF g1217 rfl
        obtain ⟨y1221, m1222⟩ : ∃ x : Int32, aI (f1215 pR) (8 : Int32).toNatClampNeg = x := ⟨_, rfl⟩
        have b1223 : (0 : Int) ≤ y1221.toInt ∧ y1221.toInt ≤ 399 := rr_8 (th_row hW.2.2.2 rR) m1222 rfl
        rw [m794, m1222, m798] at h1218
        refine q_iinc hx hb dX12_chests_11 hl (k := 0) rfl rfl rfl (by omega) (by decide) (fun i1224 ls h1225 hl => ?_)
        have hl : lv_has ls 5 [(2, .int i1224), (0, .ref h0), (1, .int u1)] := hl
        refine lv_goto (tgt := 2) hx hb dX12_chests_14 (by decide) ?_
        exact ih2 f1215 i1224 y1221 ((fm_R g1217 rh0 rfl).trans m794) (by omega) m1222 (by omega) z1220 (by omega) (by omega) _ _ _ hW hF (lv_sub hl [0, 1, 2] rfl)
  have hk1226 : (0 : Int32).toInt = 0 := rfl
  exact L802 105 f0 0 p8 mR (by decide) mp8 (by omega) rf_rf (by omega) (by omega) _ _ _ hW hF (lv_sub hl [0, 1, 2] rfl)
def rwi_X12_worst : List (Nat × Nat) := [(0, 35941)]
def rw_X12_worst : List (Nat × Nat) := []
def ms_X12_worst : List (Nat × Nat) := [(12, 6), (12, 7), (12, 8), (12, 33), (12, 34), (12, 35), (12, 36), (12, 37), (12, 38), (12, 46), (822, 0), (824, 0), (849, 0), (850, 0), (851, 0), (852, 0), (859, 0)]
def po_X12_worst (kp : Nat → Nat) (L : List Nat) (f0 : Nat → va_E) (h0 : Nat) (u1 : Int32) (u2 : Int32) : Option Value → (Nat → va_E) → Prop := fun v f => (∃ r : Int32, v = some (.int r) ∧ ((0 : Int) ≤ r.toInt)) ∧ FM kp L ms_X12_worst f0 f ∧ (RF rw_X12_worst f0 f h0)
set_option maxHeartbeats 4000000 in
set_option maxRecDepth 100000 in
theorem c_X12_worst (l : Launch) (G : va_G) (cI cJ cZ cD cR cT : ClassId) (kp : Nat → Nat) (L : List Nat) (f0 : Nat → va_E) (hTH : TH cI cJ cZ cD cR cT kp L f0) (sz : Nat) (h0 : Nat) (u1 : Int32) (u2 : Int32) (rh0 : RK kp L h0 12) (pu2 : (1 : Int) ≤ u2.toInt ∧ u2.toInt ≤ 104) (hq8 : (aI (f0 (oR (f0 h0) 2)) (8 : Int32).toNatClampNeg).toInt + u2.toInt ≤ 399) (hTX : TX (aI (f0 (oR (f0 h0) 2)))) : Met l yX12_worst (Cond.code yX12_worst cX12_worst 6 (some .int) :: wTab) ({ frames := 8, cells := 0, slots := 0, locals := 213 }) (va_Pc [.ref h0, .int u1, .int u2] (PreW G (tys6 cI cJ cZ cD cR cT) (va_pl L f0) sz)) (QT (po_X12_worst kp L f0 h0 u1 u2) G cI cJ cZ cD cR cT (va_A (va_pl L f0) sz) kp L) 0 0 (va_A (va_pl L f0) sz) := by
  refine metT (by decide) (Nat.le_of_ble_eq_true rfl) hTH ?_
  intro p e s m below meth c A ls E hW hl
  obtain ⟨hx, hb, -, hml, hown, hts, -, -, -⟩ := id E
  have hF : FM kp L ms_X12_worst f0 f0 := FM.rf
  have hl : lv_has ls 6 [(0, .ref h0), (1, .int u1), (2, .int u2)] := hl
  obtain ⟨pR, mR⟩ : ∃ x : Nat, oR (f0 h0) 2 = x := ⟨_, rfl⟩
  have rR : RK kp L pR 822 := by rw [← mR]; exact th_ref hTH rh0 (by decide) (by decide) rfl
  obtain ⟨p8, mp8⟩ : ∃ x : Int32, aI (f0 pR) (8 : Int32).toNatClampNeg = x := ⟨_, rfl⟩
  have hr8 : (0 : Int) ≤ p8.toInt ∧ p8.toInt ≤ 399 := rr_8 (th_row hTH rR) mp8 rfl
  rw [mR] at hTX
  obtain ⟨pP, mP⟩ : ∃ x : Nat, oR (f0 h0) 4 = x := ⟨_, rfl⟩
  have rP : RK kp L pP 824 := by rw [← mP]; exact th_ref hTH rh0 (by decide) (by decide) rfl
  rw [mR, mp8] at hq8
  refine lv_aload_n hx hb dX12_worst_0 rfl (lv_at hl 0 rfl) ?_
  refine lv_iload_n hx hb dX12_worst_1 rfl (lv_at hl 1 rfl) ?_
  refine fp_RX12_449 E hW rh0 dX12_worst_2 (fun f1 H locs e2 n3 g4 hW => ?_)
  have z5 : TX (aI (f1 pR)) := by rw [fm_A g4 rR (by decide) rfl]; exact hTX
  have z6 : RF rwi_X12_worst f0 f1 h0 := rf_fm hTH rf_rf g4 rh0 rfl
  have hF := FM.tr hF g4 rfl
  refine lv_iconst (v := 0) hx hb dX12_worst_5 (by decide) ?_
  refine lv_istore_n (lv' := [(3, .int 0), (0, .ref h0), (1, .int u1), (2, .int u2)]) hx hb dX12_worst_6 rfl hl (by decide) rfl (fun ls hl => ?_)
  refine lv_aload_n hx hb dX12_worst_7 rfl (lv_at hl 1 rfl) ?_
  refine t_callV (As := []) (rest := []) E hW (c_X12_keepPaper l G cI cJ cZ cD cR cT kp L f1 hW.2.2.2 _ h0 rh0) rh0 (by decide) rfl wk_X12_keepPaper tw_2043 rfl ⟨Nat.le_of_ble_eq_true rfl, Nat.le_of_ble_eq_true rfl⟩ ⟨rfl, rfl⟩ hl.1 rfl (Nat.le_of_ble_eq_true rfl) dX12_worst_8 ⟨Nat.le_of_ble_eq_true rfl, Nat.le_of_ble_eq_true rfl⟩ (fun v7 f8 H locs q9 hW => ?_)
  obtain ⟨rfl, g10, h11⟩ := q9
  have m12 : aI (f8 pR) (8 : Int32).toNatClampNeg = p8 := ((congrArg (fun z => aI z (8 : Int32).toNatClampNeg) (fm_A g10 rR (by decide) rfl)).trans ((congrArg (fun z => aI z (8 : Int32).toNatClampNeg) (fm_A g4 rR (by decide) rfl)).trans mp8))
  have z13 : TX (aI (f8 pR)) := by rw [fm_A g10 rR (by decide) rfl]; exact z5
  have z14 : RF rwi_X12_worst f0 f8 h0 := rf_fm hTH z6 g10 rh0 rfl
  have hF := FM.tr hF g10 rfl
  have z15 : CP (aI (f0 pR)) (aI (f8 pP)) 0 0 35942 := by have z := h11; rw [((fm_R g4 rh0 rfl).trans mR), ((fm_R g4 rh0 rfl).trans mP)] at z; rw [((congrArg aI (fm_A g4 rR (by decide) rfl)).trans rfl)] at z; exact z
  refine lv_aload_n hx hb dX12_worst_11 rfl (lv_at hl 1 rfl) ?_
  refine lv_iconst (v := 1) hx hb dX12_worst_12 (by decide) ?_
  refine fp_RX12_161 E hW rh0 (by decide) dX12_worst_13 (fun f16 H locs e17 n18 g19 hW => ?_)
  have z20 : TX (aI (f16 pR)) := by rw [fm_A g19 rR (by decide) rfl]; exact z13
  have z21 : RF rwi_X12_worst f0 f16 h0 := rf_fm hTH z14 g19 rh0 rfl
  have hF := FM.tr hF g19 rfl
  refine lv_iconst (v := 0) hx hb dX12_worst_16 (by decide) ?_
  refine lv_istore (lv' := [(4, .int 0), (3, .int 0), (0, .ref h0), (1, .int u1), (2, .int u2)]) hx hb dX12_worst_17 hl (by decide) rfl (fun ls hl => ?_)
  have L5271 : ∀ (n : Nat), ∀ (f5257 : Nat → va_E) (y5263 : Int32) (y5265 : Int32) (m5258 : oR (f5257 h0) 2 = pR) (m5259 : oR (f5257 h0) 4 = pP) (m5260 : oI (f5257 h0) 6 = 1) (m5261 : oI (f5257 h0) 46 = u1) (m5262 : aI (f5257 pR) (8 : Int32).toNatClampNeg = p8) (b5264 : (0 : Int) ≤ y5263.toInt ∧ y5263.toInt ≤ 3) (b5266 : (0 : Int) ≤ y5265.toInt) (z5267 : aI (f5257 pP) = aI (f8 pP)) (z5268 : TX (aI (f5257 pR))) (z5269 : RF rwi_X12_worst f0 f5257 h0) (v5270 : aI (f5257 pR) = aI (f0 pR)) (hm : (4 : Int) - y5263.toInt ≤ n) (H : Heap) (locs : List Loc) (ls : Array Slot), WS G cI cJ cZ cD cR cT A kp L f5257 s H locs → FM kp L ms_X12_worst f0 f5257 → lv_has ls 6 [(4, .int y5263), (3, .int y5265), (0, .ref h0), (1, .int u1), (2, .int u2)] → W p l e ({ frames := 8, cells := 0, slots := 0, locals := 213 }) s m ([.ref h0, .int u1, .int u2] : List Value).toArray below meth c H locs 0 0 (MQ below (QT (po_X12_worst kp L f0 h0 u1 u2) G cI cJ cZ cD cR cT A kp L) ([.ref h0, .int u1, .int u2] : List Value).toArray s 0 0 A) (F0 m 19 ls []) := by
    intro n
    induction n with
    | zero =>
      intro f5257 y5263 y5265 m5258 m5259 m5260 m5261 m5262 b5264 b5266 z5267 z5268 z5269 v5270 hm H locs ls hW hF hl
      have hz := i32_b y5263
      exfalso; omega
    | succ n ih =>
      intro f5257 y5263 y5265 m5258 m5259 m5260 m5261 m5262 b5264 b5266 z5267 z5268 z5269 v5270 hm H locs ls hW hF hl
      have ih19 := ih
      refine lv_iload hx hb dX12_worst_19 (lv_at hl 0 rfl) ?_
      refine lv_aload_n hx hb dX12_worst_21 rfl (lv_at hl 2 rfl) ?_
      refine fg_RX12_504 E hW rh0 dX12_worst_22 (fun y5272 m5273 b5274 => ?_)
      refine q_icmp_ge (tgt := 101) hx hb dX12_worst_25 (by decide) rfl rfl (fun c6566 => ?_) (fun c6566 => ?_)
      · refine lv_aload_n hx hb dX12_worst_101 rfl (lv_at hl 2 rfl) ?_
        refine lv_iconst (v := 0) hx hb dX12_worst_102 (by decide) ?_
        refine fp_RX12_161 E hW rh0 (by decide) dX12_worst_103 (fun f6567 H locs e6568 n6569 g6570 hW => ?_)
        have z6571 : TX (aI (f6567 pR)) := by rw [fm_A g6570 rR (by decide) rfl]; exact (by rw [v5270]; exact hTX)
        have z6572 : RF rwi_X12_worst f0 f6567 h0 := rf_fm hTH z5269 g6570 rh0 rfl
        have hF := FM.tr hF g6570 rfl
        refine lv_iload_n hx hb dX12_worst_106 rfl (lv_at hl 1 rfl) ?_
        exact e_I E hW rfl ⟨⟨_, rfl, (by first | omega | trivial)⟩, hF, (fun j _ => by rw [mR]; exact congrFun ((congrArg aI (fm_A g6570 rR (by decide) rfl)).trans v5270) j)⟩ dX12_worst_107
      · refine lv_aload_n hx hb dX12_worst_28 rfl (lv_at hl 2 rfl) ?_
        refine lv_aload_n hx hb dX12_worst_29 rfl (lv_at hl 2 rfl) ?_
        refine fg_RX12_76 E hW rh0 dX12_worst_30 (fun a6573 m6574 r6575 => ?_)
        refine lv_iload hx hb dX12_worst_33 (lv_at hl 0 rfl) ?_
        refine gl_864 E hW r6575 ⟨by omega, by omega⟩ dX12_worst_35 (fun y6576 m6577 => ?_)
        refine fp_RX12_165 E hW rh0 dX12_worst_36 (fun f6579 H locs e6580 n6581 g6582 hW => ?_)
        have z6583 : TX (aI (f6579 pR)) := by rw [fm_A g6582 rR (by decide) rfl]; exact (by rw [v5270]; exact hTX)
        have z6584 : RF rwi_X12_worst f0 f6579 h0 := rf_fm hTH z5269 g6582 rh0 rfl
        have hF := FM.tr hF g6582 rfl
        refine lv_aload_n hx hb dX12_worst_39 rfl (lv_at hl 2 rfl) ?_
        refine lv_aload_n hx hb dX12_worst_40 rfl (lv_at hl 2 rfl) ?_
        refine fg_RX12_79 E hW rh0 dX12_worst_41 (fun a6585 m6586 r6587 => ?_)
        refine lv_iload hx hb dX12_worst_44 (lv_at hl 0 rfl) ?_
        refine gl_865 E hW r6587 ⟨by omega, by omega⟩ dX12_worst_46 (fun y6588 m6589 => ?_)
        refine fp_RX12_452 E hW rh0 dX12_worst_47 (fun f6591 H locs e6592 n6593 g6594 hW => ?_)
        have m6595 : aI (f6591 pR) (8 : Int32).toNatClampNeg = p8 := ((congrArg (fun z => aI z (8 : Int32).toNatClampNeg) (fm_A g6594 rR (by decide) rfl)).trans ((congrArg (fun z => aI z (8 : Int32).toNatClampNeg) (fm_A g6582 rR (by decide) rfl)).trans (show aI (f5257 pR) (8 : Int32).toNatClampNeg = p8 from by rw [v5270]; exact mp8)))
        have m6596 : aI (f6591 a6573) (y5263 : Int32).toNatClampNeg = y6576 := ((congrArg (fun z => aI z (y5263 : Int32).toNatClampNeg) (fm_A g6594 r6575 (by decide) rfl)).trans ((congrArg (fun z => aI z (y5263 : Int32).toNatClampNeg) (fm_A g6582 r6575 (by decide) rfl)).trans m6577))
        have z6597 : TX (aI (f6591 pR)) := by rw [fm_A g6594 rR (by decide) rfl]; exact z6583
        have z6598 : RF rwi_X12_worst f0 f6591 h0 := rf_fm hTH z6584 g6594 rh0 rfl
        have hF := FM.tr hF g6594 rfl
        refine lv_aload_n hx hb dX12_worst_50 rfl (lv_at hl 2 rfl) ?_
        refine lv_iconst (v := 0) hx hb dX12_worst_51 (by decide) ?_
        refine fp_RX12_461 E hW rh0 dX12_worst_52 (fun f6599 H locs e6600 n6601 g6602 hW => ?_)
        have m6603 : aI (f6599 a6585) (y5263 : Int32).toNatClampNeg = y6588 := ((congrArg (fun z => aI z (y5263 : Int32).toNatClampNeg) (fm_A g6602 r6587 (by decide) rfl)).trans ((congrArg (fun z => aI z (y5263 : Int32).toNatClampNeg) (fm_A g6594 r6587 (by decide) rfl)).trans m6589))
        have z6604 : TX (aI (f6599 pR)) := by rw [fm_A g6602 rR (by decide) rfl]; exact z6597
        have z6605 : RF rwi_X12_worst f0 f6599 h0 := rf_fm hTH z6598 g6602 rh0 rfl
        have hF := FM.tr hF g6602 rfl
        refine lv_iconst (v := 0) hx hb dX12_worst_55 (by decide) ?_
        refine lv_istore (lv' := [(5, .int 0), (4, .int y5263), (3, .int y5265), (0, .ref h0), (1, .int u1), (2, .int u2)]) hx hb dX12_worst_56 hl (by decide) rfl (fun ls hl => ?_)
        have L7813 : ∀ (n : Nat), ∀ (f7794 : Nat → va_E) (y7804 : Int32) (y7806 : Int32) (m7795 : oR (f7794 h0) 2 = pR) (m7796 : oR (f7794 h0) 4 = pP) (m7797 : oI (f7794 h0) 6 = 1) (m7798 : oI (f7794 h0) 7 = y6576) (m7799 : oI (f7794 h0) 8 = y6588) (m7800 : oI (f7794 h0) 43 = y5272) (m7801 : oR (f7794 h0) 44 = a6573) (m7802 : oR (f7794 h0) 45 = a6585) (m7803 : oI (f7794 h0) 46 = u1) (b7805 : (0 : Int) ≤ y7804.toInt ∧ y7804.toInt ≤ 104) (m7807 : aI (f7794 pR) (8 : Int32).toNatClampNeg = y7806) (b7808 : (0 : Int) ≤ y7806.toInt ∧ y7806.toInt ≤ 399) (z7809 : aI (f7794 pP) = aI (f8 pP)) (z7810 : TX (aI (f7794 pR))) (z7811 : RF rwi_X12_worst f0 f7794 h0) (v7812 : y7806.toInt = p8.toInt + y7804.toInt) (hm : (105 : Int) - y7804.toInt ≤ n) (H : Heap) (locs : List Loc) (ls : Array Slot), WS G cI cJ cZ cD cR cT A kp L f7794 s H locs → FM kp L ms_X12_worst f0 f7794 → lv_has ls 6 [(5, .int y7804), (4, .int y5263), (3, .int y5265), (0, .ref h0), (1, .int u1), (2, .int u2)] → W p l e ({ frames := 8, cells := 0, slots := 0, locals := 213 }) s m ([.ref h0, .int u1, .int u2] : List Value).toArray below meth c H locs 0 0 (MQ below (QT (po_X12_worst kp L f0 h0 u1 u2) G cI cJ cZ cD cR cT A kp L) ([.ref h0, .int u1, .int u2] : List Value).toArray s 0 0 A) (F0 m 58 ls []) := by
          intro n
          induction n with
          | zero =>
            intro f7794 y7804 y7806 m7795 m7796 m7797 m7798 m7799 m7800 m7801 m7802 m7803 b7805 m7807 b7808 z7809 z7810 z7811 v7812 hm H locs ls hW hF hl
            have hz := i32_b y7804
            exfalso; omega
          | succ n ih =>
            intro f7794 y7804 y7806 m7795 m7796 m7797 m7798 m7799 m7800 m7801 m7802 m7803 b7805 m7807 b7808 z7809 z7810 z7811 v7812 hm H locs ls hW hF hl
            have ih58 := ih
            refine lv_iload hx hb dX12_worst_58 (lv_at hl 0 rfl) ?_
            refine lv_iload_n hx hb dX12_worst_60 rfl (lv_at hl 5 rfl) ?_
            refine q_icmp_ge (tgt := 74) hx hb dX12_worst_61 (by decide) rfl rfl (fun c7827 => ?_) (fun c7827 => ?_)
            · refine lv_aload_n hx hb dX12_worst_74 rfl (lv_at hl 3 rfl) ?_
              refine fg_RX12_461 E hW rh0 dX12_worst_75 (fun y7828 m7829 => ?_)
              refine lv_iload_n hx hb dX12_worst_78 rfl (lv_at hl 2 rfl) ?_
              have J7836 : ∀ (y7834 : Int32) (b7835 : (0 : Int) ≤ y7834.toInt) (H : Heap) (locs : List Loc) (ls : Array Slot), WS G cI cJ cZ cD cR cT A kp L f7794 s H locs → FM kp L ms_X12_worst f0 f7794 → lv_has ls 6 [(5, .int y7804), (4, .int y5263), (3, .int y5265), (0, .ref h0), (1, .int u1), (2, .int u2)] → W p l e ({ frames := 8, cells := 0, slots := 0, locals := 213 }) s m ([.ref h0, .int u1, .int u2] : List Value).toArray below meth c H locs 0 0 (MQ below (QT (po_X12_worst kp L f0 h0 u1 u2) G cI cJ cZ cD cR cT A kp L) ([.ref h0, .int u1, .int u2] : List Value).toArray s 0 0 A) (F0 m 90 ls [.int y7834]) := by
                intro y7834 b7835 H locs ls hW hF hl
                refine lv_istore_n (lv' := [(3, .int y7834), (5, .int y7804), (4, .int y5263), (0, .ref h0), (1, .int u1), (2, .int u2)]) hx hb dX12_worst_90 rfl hl (by decide) rfl (fun ls hl => ?_)
                refine lv_aload_n hx hb dX12_worst_91 rfl (lv_at hl 3 rfl) ?_
                refine t_callV (As := []) (rest := []) E hW (c_X12_putBack l G cI cJ cZ cD cR cT kp L f7794 hW.2.2.2 _ h0 rh0) rh0 (by decide) rfl wk_X12_putBack tw_2047 rfl ⟨Nat.le_of_ble_eq_true rfl, Nat.le_of_ble_eq_true rfl⟩ ⟨rfl, rfl⟩ hl.1 rfl (Nat.le_of_ble_eq_true rfl) dX12_worst_92 ⟨Nat.le_of_ble_eq_true rfl, Nat.le_of_ble_eq_true rfl⟩ (fun v7837 f7838 H locs q7839 hW => ?_)
                obtain ⟨rfl, g7840, h7841, h7842⟩ := q7839
                have z7844 : RF rwi_X12_worst f0 f7838 h0 := rf_call z7811 h7842 mR m7795 rfl
                have hF := FM.tr hF g7840 rfl
                have z7845 : CP (aI (f7794 pP)) (aI (f7838 pR)) 0 0 35942 := by have z := h7841; rw [m7796, m7795] at z; exact z
                have z7846 : aI (f7838 pR) = aI (f0 pR) := row_same mR z7845 z7844 (by rw [z7809]; exact z15) rfl
                refine q_iinc hx hb dX12_worst_95 hl (k := 2) rfl rfl rfl (by omega) (by decide) (fun i7847 ls h7848 hl => ?_)
                have hl : lv_has ls 6 [(4, .int i7847), (3, .int y7834), (5, .int y7804), (0, .ref h0), (1, .int u1), (2, .int u2)] := hl
                refine lv_goto (tgt := 19) hx hb dX12_worst_98 (by decide) ?_
                exact ih19 f7838 i7847 y7834 ((fm_R g7840 rh0 rfl).trans m7795) ((fm_R g7840 rh0 rfl).trans m7796) ((fm_I g7840 rh0 rfl).trans m7797) ((fm_I g7840 rh0 rfl).trans m7803) (show aI (f7838 pR) (8 : Int32).toNatClampNeg = p8 from by rw [z7846]; exact mp8) (by omega) (by omega) ((congrArg aI (fm_A g7840 rP (by decide) rfl)).trans z7809) (by rw [z7846]; exact hTX) z7844 z7846 (by omega) _ _ _ hW hF (lv_sub hl [0, 1, 3, 4, 5] rfl)
              refine q_icmp_le (tgt := 89) hx hb dX12_worst_79 (by decide) rfl rfl (fun c7849 => ?_) (fun c7849 => ?_)
              · refine lv_iload_n hx hb dX12_worst_89 rfl (lv_at hl 2 rfl) ?_
                exact J7836 y5265 (by omega) _ _ _ hW hF (lv_sub hl [0, 1, 2, 3, 4, 5] rfl)
              · have hb7850 : y5265.toInt ≤ 2147483646 := by have := i32_b y7828; omega
                refine lv_aload_n hx hb dX12_worst_82 rfl (lv_at hl 3 rfl) ?_
                refine fg_RX12_461 E hW rh0 dX12_worst_83 (fun y7851 m7852 => ?_)
                obtain rfl : y7828 = y7851 := (m7829).symm.trans m7852
                refine lv_goto (tgt := 90) hx hb dX12_worst_86 (by decide) ?_
                exact J7836 y7828 (by omega) _ _ _ hW hF (lv_sub hl [0, 1, 2, 3, 4, 5] rfl)
            · refine lv_aload_n hx hb dX12_worst_64 rfl (lv_at hl 3 rfl) ?_
              refine t_callV (As := []) (rest := []) E hW (c_X12_goWeek l G cI cJ cZ cD cR cT kp L f7794 hW.2.2.2 _ h0 rh0 (by rw [m7795, m7807]; omega) (by rw [m7795]; exact z7810)) rh0 (by decide) rfl wk_X12_goWeek tw_1918 rfl ⟨Nat.le_of_ble_eq_true rfl, Nat.le_of_ble_eq_true rfl⟩ ⟨rfl, rfl⟩ hl.1 rfl (Nat.le_of_ble_eq_true rfl) dX12_worst_65 ⟨Nat.le_of_ble_eq_true rfl, Nat.le_of_ble_eq_true rfl⟩ (fun v7854 f7855 H locs q7856 hW => ?_)
              obtain ⟨rfl, g7857, h7858, h7859⟩ := q7856
              have z7860 : TX (aI (f7855 pR)) := tx_rf z7810 h7859 m7795 rfl rfl
              have z7861 : RF rwi_X12_worst f0 f7855 h0 := rf_call z7811 h7859 mR m7795 rfl
              have hF := FM.tr hF g7857 rfl
              obtain ⟨y7862, m7863⟩ : ∃ x : Int32, aI (f7855 pR) (8 : Int32).toNatClampNeg = x := ⟨_, rfl⟩
              have b7864 : (0 : Int) ≤ y7862.toInt ∧ y7862.toInt ≤ 399 := rr_8 (th_row hW.2.2.2 rR) m7863 rfl
              rw [m7795, m7863, m7807] at h7858
              refine q_iinc hx hb dX12_worst_68 hl (k := 0) rfl rfl rfl (by omega) (by decide) (fun i7865 ls h7866 hl => ?_)
              have hl : lv_has ls 6 [(5, .int i7865), (4, .int y5263), (3, .int y5265), (0, .ref h0), (1, .int u1), (2, .int u2)] := hl
              refine lv_goto (tgt := 58) hx hb dX12_worst_71 (by decide) ?_
              exact ih58 f7855 i7865 y7862 ((fm_R g7857 rh0 rfl).trans m7795) ((fm_R g7857 rh0 rfl).trans m7796) ((fm_I g7857 rh0 rfl).trans m7797) ((fm_I g7857 rh0 rfl).trans m7798) ((fm_I g7857 rh0 rfl).trans m7799) ((fm_I g7857 rh0 rfl).trans m7800) ((fm_R g7857 rh0 rfl).trans m7801) ((fm_R g7857 rh0 rfl).trans m7802) ((fm_I g7857 rh0 rfl).trans m7803) (by omega) m7863 (by omega) ((congrArg aI (fm_A g7857 rP (by decide) rfl)).trans z7809) z7860 z7861 (by omega) (by omega) _ _ _ hW hF (lv_sub hl [0, 1, 2, 3, 4, 5] rfl)
        have hk7867 : (0 : Int32).toInt = 0 := rfl
        exact L7813 105 f6599 0 p8 ((fm_R g6602 rh0 rfl).trans ((fm_R g6594 rh0 rfl).trans ((fm_R g6582 rh0 rfl).trans m5258))) ((fm_R g6602 rh0 rfl).trans ((fm_R g6594 rh0 rfl).trans ((fm_R g6582 rh0 rfl).trans m5259))) ((fm_I g6602 rh0 rfl).trans ((fm_I g6594 rh0 rfl).trans ((fm_I g6582 rh0 rfl).trans m5260))) ((fm_I g6602 rh0 rfl).trans ((fm_I g6594 rh0 rfl).trans e6580)) ((fm_I g6602 rh0 rfl).trans e6592) ((fm_I g6602 rh0 rfl).trans ((fm_I g6594 rh0 rfl).trans ((fm_I g6582 rh0 rfl).trans m5273))) ((fm_R g6602 rh0 rfl).trans ((fm_R g6594 rh0 rfl).trans ((fm_R g6582 rh0 rfl).trans m6574))) ((fm_R g6602 rh0 rfl).trans ((fm_R g6594 rh0 rfl).trans m6586)) ((fm_I g6602 rh0 rfl).trans ((fm_I g6594 rh0 rfl).trans ((fm_I g6582 rh0 rfl).trans m5261))) (by decide) ((congrArg (fun z => aI z (8 : Int32).toNatClampNeg) (fm_A g6602 rR (by decide) rfl)).trans m6595) (by omega) ((congrArg aI (fm_A g6602 rP (by decide) rfl)).trans ((congrArg aI (fm_A g6594 rP (by decide) rfl)).trans ((congrArg aI (fm_A g6582 rP (by decide) rfl)).trans z5267))) z6604 z6605 (by omega) (by omega) _ _ _ hW hF (lv_sub hl [0, 1, 2, 3, 4, 5] rfl)
  have hk7868 : (0 : Int32).toInt = 0 := rfl
  have hk7869 : (0 : Int32).toInt = 0 := rfl
  exact L5271 4 f16 0 0 ((fm_R g19 rh0 rfl).trans ((fm_R g10 rh0 rfl).trans ((fm_R g4 rh0 rfl).trans mR))) ((fm_R g19 rh0 rfl).trans ((fm_R g10 rh0 rfl).trans ((fm_R g4 rh0 rfl).trans mP))) e17 ((fm_I g19 rh0 rfl).trans ((fm_I g10 rh0 rfl).trans e2)) ((congrArg (fun z => aI z (8 : Int32).toNatClampNeg) (fm_A g19 rR (by decide) rfl)).trans m12) (by decide) (by decide) ((congrArg aI (fm_A g19 rP (by decide) rfl)).trans rfl) z20 z21 ((congrArg aI (fm_A g19 rR (by decide) rfl)).trans ((congrArg aI (fm_A g10 rR (by decide) rfl)).trans ((congrArg aI (fm_A g4 rR (by decide) rfl)).trans rfl))) (by omega) _ _ _ hW hF (lv_sub hl [0, 1, 2, 3, 4] rfl)
def rw_X12_choose : List (Nat × Nat) := []
def ms_X12_choose : List (Nat × Nat) := [(12, 0), (12, 6), (12, 7), (12, 8), (12, 33), (12, 34), (12, 35), (12, 36), (12, 37), (12, 38), (12, 46), (12, 47), (12, 48), (12, 49), (822, 0), (824, 0), (849, 0), (850, 0), (851, 0), (852, 0), (859, 0)]
def po_X12_choose (kp : Nat → Nat) (L : List Nat) (f0 : Nat → va_E) (h0 : Nat) (u1 : Int32) : Option Value → (Nat → va_E) → Prop := fun v f => (∃ r : Int32, v = some (.int r) ∧ ((-1 : Int) ≤ r.toInt)) ∧ FM kp L ms_X12_choose f0 f ∧ (RF rw_X12_choose f0 f h0)
set_option maxHeartbeats 4000000 in
set_option maxRecDepth 100000 in
theorem c_X12_choose (l : Launch) (G : va_G) (cI cJ cZ cD cR cT : ClassId) (kp : Nat → Nat) (L : List Nat) (f0 : Nat → va_E) (hTH : TH cI cJ cZ cD cR cT kp L f0) (sz : Nat) (h0 : Nat) (u1 : Int32) (rh0 : RK kp L h0 12) (hTX : TX (aI (f0 (oR (f0 h0) 2)))) : Met l yX12_choose (Cond.code yX12_choose cX12_choose 9 (some .int) :: wTab) ({ frames := 9, cells := 0, slots := 0, locals := 238 }) (va_Pc [.ref h0, .int u1] (PreW G (tys6 cI cJ cZ cD cR cT) (va_pl L f0) sz)) (QT (po_X12_choose kp L f0 h0 u1) G cI cJ cZ cD cR cT (va_A (va_pl L f0) sz) kp L) 0 0 (va_A (va_pl L f0) sz) := by
  refine metT (by decide) (Nat.le_of_ble_eq_true rfl) hTH ?_
  intro p e s m below meth c A ls E hW hl
  obtain ⟨hx, hb, -, hml, hown, hts, -, -, -⟩ := id E
  have hF : FM kp L ms_X12_choose f0 f0 := FM.rf
  have hl : lv_has ls 9 [(0, .ref h0), (1, .int u1)] := hl
  obtain ⟨pR, mR⟩ : ∃ x : Nat, oR (f0 h0) 2 = x := ⟨_, rfl⟩
  have rR : RK kp L pR 822 := by rw [← mR]; exact th_ref hTH rh0 (by decide) (by decide) rfl
  obtain ⟨p8, mp8⟩ : ∃ x : Int32, aI (f0 pR) (8 : Int32).toNatClampNeg = x := ⟨_, rfl⟩
  have hr8 : (0 : Int) ≤ p8.toInt ∧ p8.toInt ≤ 399 := rr_8 (th_row hTH rR) mp8 rfl
  rw [mR] at hTX
  refine lv_aload_n hx hb dX12_choose_0 rfl (lv_at hl 0 rfl) ?_
  refine lv_iconst (v := 0) hx hb dX12_choose_1 (by decide) ?_
  refine fp_RX12_82 E hW rh0 dX12_choose_2 (fun f1 H locs e2 n3 g4 hW => ?_)
  have z5 : RF rw_X12_choose f0 f1 h0 := rf_fm hTH rf_rf g4 rh0 rfl
  have hF := FM.tr hF g4 rfl
  refine lv_aload_n hx hb dX12_choose_5 rfl (lv_at hl 0 rfl) ?_
  refine lv_iload_n hx hb dX12_choose_6 rfl (lv_at hl 1 rfl) ?_
  refine t_callV (As := [.int u1]) (rest := []) E hW (c_X12_isSpan l G cI cJ cZ cD cR cT kp L f1 hW.2.2.2 _ h0 u1 rh0) rh0 (by decide) rfl wk_X12_isSpan tw_2031 rfl ⟨Nat.le_of_ble_eq_true rfl, Nat.le_of_ble_eq_true rfl⟩ ⟨rfl, rfl⟩ hl.1 rfl (Nat.le_of_ble_eq_true rfl) dX12_choose_7 ⟨Nat.le_of_ble_eq_true rfl, Nat.le_of_ble_eq_true rfl⟩ (fun v6 f7 H locs q8 hW => ?_)
  obtain ⟨⟨x10, rfl, p11⟩, g9⟩ := q8
  rw [((fm_R g4 rh0 rfl).trans mR), ((congrArg (fun z => aI z (8 : Int32).toNatClampNeg) (fm_A g4 rR (by decide) rfl)).trans mp8)] at p11
  have m12 : aI (f7 pR) (8 : Int32).toNatClampNeg = p8 := ((congrArg (fun z => aI z (8 : Int32).toNatClampNeg) (fm_A g9 rR (by decide) rfl)).trans ((congrArg (fun z => aI z (8 : Int32).toNatClampNeg) (fm_A g4 rR (by decide) rfl)).trans mp8))
  have z13 : RF rw_X12_choose f0 f7 h0 := rf_fm hTH z5 g9 rh0 rfl
  have hF := FM.tr hF g9 rfl
  refine q_if_eq (tgt := 27) hx hb dX12_choose_10 (by decide) rfl (fun c14 => ?_) (fun c14 => ?_)
  · clear p11
    refine lv_iconst (v := (-1)) hx hb dX12_choose_27 (by decide) ?_
    exact e_I E hW rfl ⟨⟨_, rfl, (by have hk : ((-1) : Int32).toInt = -1 := rfl; first | decide | omega)⟩, hF, z13⟩ dX12_choose_28
  · have q15 : 1 ≤ u1.toInt ∧ u1.toInt ≤ 104 ∧ p8.toInt + u1.toInt ≤ 399 := by omega
    clear p11
    refine lv_aload_n hx hb dX12_choose_13 rfl (lv_at hl 0 rfl) ?_
    refine fg_RX12_504 E hW rh0 dX12_choose_14 (fun y16 m17 b18 => ?_)
    refine q_if_eq (tgt := 27) hx hb dX12_choose_17 (by decide) rfl (fun c19 => ?_) (fun c19 => ?_)
    · refine lv_iconst (v := (-1)) hx hb dX12_choose_27 (by decide) ?_
      exact e_I E hW rfl ⟨⟨_, rfl, (by have hk : ((-1) : Int32).toInt = -1 := rfl; first | decide | omega)⟩, hF, z13⟩ dX12_choose_28
    · refine lv_aload_n hx hb dX12_choose_20 rfl (lv_at hl 0 rfl) ?_
      refine t_callV (As := []) (rest := []) E hW (c_X12_areThere l G cI cJ cZ cD cR cT kp L f7 hW.2.2.2 _ h0 rh0) rh0 (by decide) rfl wk_X12_areThere tw_2035 rfl ⟨Nat.le_of_ble_eq_true rfl, Nat.le_of_ble_eq_true rfl⟩ ⟨rfl, rfl⟩ hl.1 rfl (Nat.le_of_ble_eq_true rfl) dX12_choose_21 ⟨Nat.le_of_ble_eq_true rfl, Nat.le_of_ble_eq_true rfl⟩ (fun v20 f21 H locs q22 hW => ?_)
      obtain ⟨⟨x24, rfl, p25⟩, g23⟩ := q22
      have z26 : RF rw_X12_choose f0 f21 h0 := rf_fm hTH z13 g23 rh0 rfl
      have hF := FM.tr hF g23 rfl
      refine q_if_ne (tgt := 29) hx hb dX12_choose_24 (by decide) rfl (fun c27 => ?_) (fun c27 => ?_)
      · refine lv_iconst (v := (-1)) hx hb dX12_choose_29 (by decide) ?_
        refine lv_istore_n (lv' := [(2, .int (-1)), (0, .ref h0), (1, .int u1)]) hx hb dX12_choose_30 rfl hl (by decide) rfl (fun ls hl => ?_)
        refine lv_iconst (v := 0) hx hb dX12_choose_31 (by decide) ?_
        refine lv_istore_n (lv' := [(3, .int 0), (2, .int (-1)), (0, .ref h0), (1, .int u1)]) hx hb dX12_choose_32 rfl hl (by decide) rfl (fun ls hl => ?_)
        refine lv_iconst (v := 0) hx hb dX12_choose_33 (by decide) ?_
        refine lv_istore (lv' := [(4, .int 0), (3, .int 0), (2, .int (-1)), (0, .ref h0), (1, .int u1)]) hx hb dX12_choose_34 hl (by decide) rfl (fun ls hl => ?_)
        have L104902 : ∀ (n : Nat), ∀ (f104891 : Nat → va_E) (y104896 : Int32) (y104898 : Int32) (y104899 : Int32) (m104892 : oI (f104891 h0) 0 = 0) (m104893 : oR (f104891 h0) 2 = pR) (m104894 : oI (f104891 h0) 43 = y16) (m104895 : aI (f104891 pR) (8 : Int32).toNatClampNeg = p8) (b104897 : (0 : Int) ≤ y104896.toInt) (b104900 : (-1 : Int) ≤ y104899.toInt) (z104901 : RF rw_X12_choose f0 f104891 h0) (hm : (2147483648 : Int) - y104896.toInt ≤ n) (H : Heap) (locs : List Loc) (ls : Array Slot), WS G cI cJ cZ cD cR cT A kp L f104891 s H locs → FM kp L ms_X12_choose f0 f104891 → lv_has ls 9 [(4, .int y104896), (3, .int y104898), (2, .int y104899), (0, .ref h0), (1, .int u1)] → W p l e ({ frames := 9, cells := 0, slots := 0, locals := 238 }) s m ([.ref h0, .int u1] : List Value).toArray below meth c H locs 0 0 (MQ below (QT (po_X12_choose kp L f0 h0 u1) G cI cJ cZ cD cR cT A kp L) ([.ref h0, .int u1] : List Value).toArray s 0 0 A) (F0 m 36 ls []) := by
          intro n
          induction n with
          | zero =>
            intro f104891 y104896 y104898 y104899 m104892 m104893 m104894 m104895 b104897 b104900 z104901 hm H locs ls hW hF hl
            have hz := i32_b y104896
            exfalso; omega
          | succ n ih =>
            intro f104891 y104896 y104898 y104899 m104892 m104893 m104894 m104895 b104897 b104900 z104901 hm H locs ls hW hF hl
            clear c14 p25 c27
            have ih36 := ih
            refine lv_iload hx hb dX12_choose_36 (lv_at hl 0 rfl) ?_
            refine lv_iconst (v := 1) hx hb dX12_choose_38 (by decide) ?_
            refine lv_aload_n hx hb dX12_choose_39 rfl (lv_at hl 3 rfl) ?_
            refine fg_RX12_446 E hW rh0 dX12_choose_40 (fun y104903 m104904 b104905 => ?_)
            refine u_ishl hx hb dX12_choose_43 (fun x104906 => ?_)
            refine q_icmp_ge (tgt := 153) hx hb dX12_choose_44 (by decide) rfl rfl (fun c106583 => ?_) (fun c106583 => ?_)
            · refine lv_aload_n hx hb dX12_choose_153 rfl (lv_at hl 3 rfl) ?_
              refine lv_iconst (v := 1) hx hb dX12_choose_154 (by decide) ?_
              refine fp_RX12_525 E hW rh0 (by decide) dX12_choose_155 (fun f106584 H locs e106585 n106586 g106587 hW => ?_)
              have z106588 : RF rw_X12_choose f0 f106584 h0 := rf_fm hTH z104901 g106587 rh0 rfl
              have hF := FM.tr hF g106587 rfl
              refine lv_aload_n hx hb dX12_choose_158 rfl (lv_at hl 3 rfl) ?_
              refine lv_aload_n hx hb dX12_choose_159 rfl (lv_at hl 3 rfl) ?_
              refine fg_RX12_446 E hW rh0 dX12_choose_160 (fun y106589 m106590 b106591 => ?_)
              obtain rfl : y104903 = y106589 := (((fm_I g106587 rh0 rfl).trans m104904)).symm.trans m106590
              refine fp_RX12_528 E hW rh0 dX12_choose_163 (fun f106592 H locs e106593 n106594 g106595 hW => ?_)
              have m106596 : aI (f106592 pR) (8 : Int32).toNatClampNeg = p8 := ((congrArg (fun z => aI z (8 : Int32).toNatClampNeg) (fm_A g106595 rR (by decide) rfl)).trans ((congrArg (fun z => aI z (8 : Int32).toNatClampNeg) (fm_A g106587 rR (by decide) rfl)).trans m104895))
              have z106597 : RF rw_X12_choose f0 f106592 h0 := rf_fm hTH z106588 g106595 rh0 rfl
              have hF := FM.tr hF g106595 rfl
              refine lv_iload_n hx hb dX12_choose_166 rfl (lv_at hl 2 rfl) ?_
              exact e_I E hW rfl ⟨⟨_, rfl, (by first | omega | trivial)⟩, hF, z106597⟩ dX12_choose_167
            · have hb106598 : y104896.toInt ≤ 2147483646 := by have := i32_b x104906; omega
              refine lv_iconst (v := 0) hx hb dX12_choose_47 (by decide) ?_
              refine lv_istore (lv' := [(5, .int 0), (4, .int y104896), (3, .int y104898), (2, .int y104899), (0, .ref h0), (1, .int u1)]) hx hb dX12_choose_48 hl (by decide) rfl (fun ls hl => ?_)
              refine lv_iconst (v := 0) hx hb dX12_choose_50 (by decide) ?_
              refine lv_istore (lv' := [(6, .int 0), (5, .int 0), (4, .int y104896), (3, .int y104898), (2, .int y104899), (0, .ref h0), (1, .int u1)]) hx hb dX12_choose_51 hl (by decide) rfl (fun ls hl => ?_)
              refine lv_iconst (v := 0) hx hb dX12_choose_53 (by decide) ?_
              refine lv_istore (lv' := [(7, .int 0), (6, .int 0), (5, .int 0), (4, .int y104896), (3, .int y104898), (2, .int y104899), (0, .ref h0), (1, .int u1)]) hx hb dX12_choose_54 hl (by decide) rfl (fun ls hl => ?_)
              have L108176 : ∀ (n : Nat), ∀ (y108172 : Int32) (y108174 : Int32) (y108175 : Int32) (b108173 : (0 : Int) ≤ y108172.toInt ∧ y108172.toInt ≤ 6) (hm : (7 : Int) - y108172.toInt ≤ n) (H : Heap) (locs : List Loc) (ls : Array Slot), WS G cI cJ cZ cD cR cT A kp L f104891 s H locs → FM kp L ms_X12_choose f0 f104891 → lv_has ls 9 [(7, .int y108172), (6, .int y108174), (5, .int y108175), (4, .int y104896), (3, .int y104898), (2, .int y104899), (0, .ref h0), (1, .int u1)] → W p l e ({ frames := 9, cells := 0, slots := 0, locals := 238 }) s m ([.ref h0, .int u1] : List Value).toArray below meth c H locs 0 0 (MQ below (QT (po_X12_choose kp L f0 h0 u1) G cI cJ cZ cD cR cT A kp L) ([.ref h0, .int u1] : List Value).toArray s 0 0 A) (F0 m 56 ls []) := by
                intro n
                induction n with
                | zero =>
                  intro y108172 y108174 y108175 b108173 hm H locs ls hW hF hl
                  have hz := i32_b y108172
                  exfalso; omega
                | succ n ih =>
                  intro y108172 y108174 y108175 b108173 hm H locs ls hW hF hl
                  have ih56 := ih
                  refine lv_iload hx hb dX12_choose_56 (lv_at hl 0 rfl) ?_
                  refine lv_aload_n hx hb dX12_choose_58 rfl (lv_at hl 6 rfl) ?_
                  refine fg_RX12_446 E hW rh0 dX12_choose_59 (fun y108177 m108178 b108179 => ?_)
                  obtain rfl : y104903 = y108177 := (m104904).symm.trans m108178
                  refine q_icmp_ge (tgt := 104) hx hb dX12_choose_62 (by decide) rfl rfl (fun c108195 => ?_) (fun c108195 => ?_)
                  · refine lv_aload_n hx hb dX12_choose_104 rfl (lv_at hl 6 rfl) ?_
                    refine lv_iload hx hb dX12_choose_105 (lv_at hl 2 rfl) ?_
                    refine lv_iload_n hx hb dX12_choose_107 rfl (lv_at hl 7 rfl) ?_
                    refine t_callV (As := [.int y108175, .int u1]) (rest := []) E hW (c_X12_worst l G cI cJ cZ cD cR cT kp L f104891 hW.2.2.2 _ h0 y108175 u1 rh0 (by omega) (by rw [m104893, m104895]; omega) (by rw [m104893]; exact (tx_rf hTX z104901 mR rfl rfl))) rh0 (by decide) rfl wk_X12_worst tw_2039 rfl ⟨Nat.le_of_ble_eq_true rfl, Nat.le_of_ble_eq_true rfl⟩ ⟨rfl, rfl⟩ hl.1 rfl (Nat.le_of_ble_eq_true rfl) dX12_choose_108 ⟨Nat.le_of_ble_eq_true rfl, Nat.le_of_ble_eq_true rfl⟩ (fun v108196 f108197 H locs q108198 hW => ?_)
                    obtain ⟨⟨x108201, rfl, p108202⟩, g108199, h108200⟩ := q108198
                    have z108203 : RF rw_X12_choose f0 f108197 h0 := rf_call z104901 h108200 mR m104893 rfl
                    have hF := FM.tr hF g108199 rfl
                    refine lv_istore (lv' := [(7, .int x108201), (6, .int y108174), (5, .int y108175), (4, .int y104896), (3, .int y104898), (2, .int y104899), (0, .ref h0), (1, .int u1)]) hx hb dX12_choose_111 hl (by decide) rfl (fun ls hl => ?_)
                    refine lv_iload_n hx hb dX12_choose_113 rfl (lv_at hl 5 rfl) ?_
                    have J108235 : ∀ (f108225 : Nat → va_E) (y108231 : Int32) (y108232 : Int32) (m108226 : oI (f108225 h0) 0 = 0) (m108227 : oR (f108225 h0) 2 = pR) (m108228 : oI (f108225 h0) 41 = y104903) (m108229 : oI (f108225 h0) 43 = y16) (m108230 : aI (f108225 pR) (8 : Int32).toNatClampNeg = p8) (b108233 : (0 : Int) ≤ y108232.toInt) (z108234 : RF rw_X12_choose f0 f108225 h0) (H : Heap) (locs : List Loc) (ls : Array Slot), WS G cI cJ cZ cD cR cT A kp L f108225 s H locs → FM kp L ms_X12_choose f0 f108225 → lv_has ls 9 [(3, .int y108231), (2, .int y108232), (7, .int x108201), (6, .int y108174), (5, .int y108175), (4, .int y104896), (0, .ref h0), (1, .int u1)] → W p l e ({ frames := 9, cells := 0, slots := 0, locals := 238 }) s m ([.ref h0, .int u1] : List Value).toArray below meth c H locs 0 0 (MQ below (QT (po_X12_choose kp L f0 h0 u1) G cI cJ cZ cD cR cT A kp L) ([.ref h0, .int u1] : List Value).toArray s 0 0 A) (F0 m 147 ls []) := by
                      intro f108225 y108231 y108232 m108226 m108227 m108228 m108229 m108230 b108233 z108234 H locs ls hW hF hl
                      clear b104900
                      refine q_iinc hx hb dX12_choose_147 hl (k := 5) rfl rfl rfl (by omega) (by decide) (fun i108236 ls h108237 hl => ?_)
                      have hl : lv_has ls 9 [(4, .int i108236), (3, .int y108231), (2, .int y108232), (7, .int x108201), (6, .int y108174), (5, .int y108175), (0, .ref h0), (1, .int u1)] := hl
                      refine lv_goto (tgt := 36) hx hb dX12_choose_150 (by decide) ?_
                      exact ih36 f108225 i108236 y108231 y108232 m108226 m108227 m108229 m108230 (by omega) (by omega) z108234 (by omega) _ _ _ hW hF (lv_sub hl [0, 1, 2, 6, 7] rfl)
                    refine q_if_lt (tgt := 135) hx hb dX12_choose_114 (by decide) rfl (fun c108238 => ?_) (fun c108238 => ?_)
                    · refine lv_iload hx hb dX12_choose_135 (lv_at hl 0 rfl) ?_
                      refine lv_istore_n (lv' := [(2, .int x108201), (7, .int x108201), (6, .int y108174), (5, .int y108175), (4, .int y104896), (3, .int y104898), (0, .ref h0), (1, .int u1)]) hx hb dX12_choose_137 rfl hl (by decide) rfl (fun ls hl => ?_)
                      refine lv_iload hx hb dX12_choose_138 (lv_at hl 2 rfl) ?_
                      refine lv_istore_n (lv' := [(3, .int y108174), (2, .int x108201), (7, .int x108201), (6, .int y108174), (5, .int y108175), (4, .int y104896), (0, .ref h0), (1, .int u1)]) hx hb dX12_choose_140 rfl hl (by decide) rfl (fun ls hl => ?_)
                      refine lv_aload_n hx hb dX12_choose_141 rfl (lv_at hl 6 rfl) ?_
                      refine lv_iload hx hb dX12_choose_142 (lv_at hl 4 rfl) ?_
                      refine fp_RX12_522 E hW rh0 dX12_choose_144 (fun f108239 H locs e108240 n108241 g108242 hW => ?_)
                      have m108243 : aI (f108239 pR) (8 : Int32).toNatClampNeg = p8 := ((congrArg (fun z => aI z (8 : Int32).toNatClampNeg) (fm_A g108242 rR (by decide) rfl)).trans ((show aI (f108197 pR) (8 : Int32).toNatClampNeg = aI (f104891 pR) (8 : Int32).toNatClampNeg from rf_get h108200 m104893 8 rfl).trans m104895))
                      have z108244 : RF rw_X12_choose f0 f108239 h0 := rf_fm hTH z108203 g108242 rh0 rfl
                      have hF := FM.tr hF g108242 rfl
                      exact J108235 f108239 y108174 x108201 ((fm_I g108242 rh0 rfl).trans ((fm_I g108199 rh0 rfl).trans m104892)) ((fm_R g108242 rh0 rfl).trans ((fm_R g108199 rh0 rfl).trans m104893)) ((fm_I g108242 rh0 rfl).trans ((fm_I g108199 rh0 rfl).trans m108178)) ((fm_I g108242 rh0 rfl).trans ((fm_I g108199 rh0 rfl).trans m104894)) m108243 (by omega) z108244 _ _ _ hW hF (lv_sub hl [0, 1, 2, 3, 4, 5, 6, 7] rfl)
                    · refine lv_iload hx hb dX12_choose_117 (lv_at hl 0 rfl) ?_
                      refine lv_iload_n hx hb dX12_choose_119 rfl (lv_at hl 5 rfl) ?_
                      refine q_icmp_lt (tgt := 135) hx hb dX12_choose_120 (by decide) rfl rfl (fun c108245 => ?_) (fun c108245 => ?_)
                      · have hb108246 : x108201.toInt ≤ 2147483646 := by have := i32_b y104899; omega
                        refine lv_iload hx hb dX12_choose_135 (lv_at hl 0 rfl) ?_
                        refine lv_istore_n (lv' := [(2, .int x108201), (7, .int x108201), (6, .int y108174), (5, .int y108175), (4, .int y104896), (3, .int y104898), (0, .ref h0), (1, .int u1)]) hx hb dX12_choose_137 rfl hl (by decide) rfl (fun ls hl => ?_)
                        refine lv_iload hx hb dX12_choose_138 (lv_at hl 2 rfl) ?_
                        refine lv_istore_n (lv' := [(3, .int y108174), (2, .int x108201), (7, .int x108201), (6, .int y108174), (5, .int y108175), (4, .int y104896), (0, .ref h0), (1, .int u1)]) hx hb dX12_choose_140 rfl hl (by decide) rfl (fun ls hl => ?_)
                        refine lv_aload_n hx hb dX12_choose_141 rfl (lv_at hl 6 rfl) ?_
                        refine lv_iload hx hb dX12_choose_142 (lv_at hl 4 rfl) ?_
                        refine fp_RX12_522 E hW rh0 dX12_choose_144 (fun f108247 H locs e108248 n108249 g108250 hW => ?_)
                        have m108251 : aI (f108247 pR) (8 : Int32).toNatClampNeg = p8 := ((congrArg (fun z => aI z (8 : Int32).toNatClampNeg) (fm_A g108250 rR (by decide) rfl)).trans ((show aI (f108197 pR) (8 : Int32).toNatClampNeg = aI (f104891 pR) (8 : Int32).toNatClampNeg from rf_get h108200 m104893 8 rfl).trans m104895))
                        have z108252 : RF rw_X12_choose f0 f108247 h0 := rf_fm hTH z108203 g108250 rh0 rfl
                        have hF := FM.tr hF g108250 rfl
                        exact J108235 f108247 y108174 x108201 ((fm_I g108250 rh0 rfl).trans ((fm_I g108199 rh0 rfl).trans m104892)) ((fm_R g108250 rh0 rfl).trans ((fm_R g108199 rh0 rfl).trans m104893)) ((fm_I g108250 rh0 rfl).trans ((fm_I g108199 rh0 rfl).trans m108178)) ((fm_I g108250 rh0 rfl).trans ((fm_I g108199 rh0 rfl).trans m104894)) m108251 (by omega) z108252 _ _ _ hW hF (lv_sub hl [0, 1, 2, 3, 4, 5, 6, 7] rfl)
                      · refine lv_iload hx hb dX12_choose_123 (lv_at hl 0 rfl) ?_
                        refine lv_iload_n hx hb dX12_choose_125 rfl (lv_at hl 5 rfl) ?_
                        refine q_icmp_ne (tgt := 147) hx hb dX12_choose_126 (by decide) rfl rfl (fun c108253 => ?_) (fun c108253 => ?_)
                        · exact J108235 f108197 y104898 y104899 ((fm_I g108199 rh0 rfl).trans m104892) ((fm_R g108199 rh0 rfl).trans m104893) ((fm_I g108199 rh0 rfl).trans m108178) ((fm_I g108199 rh0 rfl).trans m104894) ((show aI (f108197 pR) (8 : Int32).toNatClampNeg = aI (f104891 pR) (8 : Int32).toNatClampNeg from rf_get h108200 m104893 8 rfl).trans m104895) (by omega) z108203 _ _ _ hW hF (lv_sub hl [4, 5, 0, 1, 2, 3, 6, 7] rfl)
                        · refine lv_iload hx hb dX12_choose_129 (lv_at hl 1 rfl) ?_
                          refine lv_iload_n hx hb dX12_choose_131 rfl (lv_at hl 4 rfl) ?_
                          refine q_icmp_ge (tgt := 147) hx hb dX12_choose_132 (by decide) rfl rfl (fun c108254 => ?_) (fun c108254 => ?_)
                          · exact J108235 f108197 y104898 y104899 ((fm_I g108199 rh0 rfl).trans m104892) ((fm_R g108199 rh0 rfl).trans m104893) ((fm_I g108199 rh0 rfl).trans m108178) ((fm_I g108199 rh0 rfl).trans m104894) ((show aI (f108197 pR) (8 : Int32).toNatClampNeg = aI (f104891 pR) (8 : Int32).toNatClampNeg from rf_get h108200 m104893 8 rfl).trans m104895) (by omega) z108203 _ _ _ hW hF (lv_sub hl [4, 5, 0, 1, 2, 3, 6, 7] rfl)
                          · have hb108255 : y108174.toInt ≤ 2147483646 := by have := i32_b y104898; omega
                            have hb108256 : -2147483647 ≤ y104898.toInt := by have := i32_b y108174; omega
                            refine lv_iload hx hb dX12_choose_135 (lv_at hl 0 rfl) ?_
                            refine lv_istore_n (lv' := [(2, .int x108201), (7, .int x108201), (6, .int y108174), (5, .int y108175), (4, .int y104896), (3, .int y104898), (0, .ref h0), (1, .int u1)]) hx hb dX12_choose_137 rfl hl (by decide) rfl (fun ls hl => ?_)
                            refine lv_iload hx hb dX12_choose_138 (lv_at hl 2 rfl) ?_
                            refine lv_istore_n (lv' := [(3, .int y108174), (2, .int x108201), (7, .int x108201), (6, .int y108174), (5, .int y108175), (4, .int y104896), (0, .ref h0), (1, .int u1)]) hx hb dX12_choose_140 rfl hl (by decide) rfl (fun ls hl => ?_)
                            refine lv_aload_n hx hb dX12_choose_141 rfl (lv_at hl 6 rfl) ?_
                            refine lv_iload hx hb dX12_choose_142 (lv_at hl 4 rfl) ?_
                            refine fp_RX12_522 E hW rh0 dX12_choose_144 (fun f108257 H locs e108258 n108259 g108260 hW => ?_)
                            have m108261 : aI (f108257 pR) (8 : Int32).toNatClampNeg = p8 := ((congrArg (fun z => aI z (8 : Int32).toNatClampNeg) (fm_A g108260 rR (by decide) rfl)).trans ((show aI (f108197 pR) (8 : Int32).toNatClampNeg = aI (f104891 pR) (8 : Int32).toNatClampNeg from rf_get h108200 m104893 8 rfl).trans m104895))
                            have z108262 : RF rw_X12_choose f0 f108257 h0 := rf_fm hTH z108203 g108260 rh0 rfl
                            have hF := FM.tr hF g108260 rfl
                            exact J108235 f108257 y108174 x108201 ((fm_I g108260 rh0 rfl).trans ((fm_I g108199 rh0 rfl).trans m104892)) ((fm_R g108260 rh0 rfl).trans ((fm_R g108199 rh0 rfl).trans m104893)) ((fm_I g108260 rh0 rfl).trans ((fm_I g108199 rh0 rfl).trans m108178)) ((fm_I g108260 rh0 rfl).trans ((fm_I g108199 rh0 rfl).trans m104894)) m108261 (by omega) z108262 _ _ _ hW hF (lv_sub hl [0, 1, 2, 3, 4, 5, 6, 7] rfl)
                  · refine lv_iload hx hb dX12_choose_65 (lv_at hl 3 rfl) ?_
                    refine lv_aload_n hx hb dX12_choose_67 rfl (lv_at hl 6 rfl) ?_
                    refine fg_RX12_446 E hW rh0 dX12_choose_68 (fun y108263 m108264 b108265 => ?_)
                    obtain rfl : y104903 = y108263 := (m108178).symm.trans m108264
                    refine lv_iconst (v := 1) hx hb dX12_choose_71 (by decide) ?_
                    refine q_isub (Y := 1) hx hb dX12_choose_72 rfl rfl (by omega) (fun x108266 h108267 => ?_)
                    refine lv_iload hx hb dX12_choose_73 (lv_at hl 0 rfl) ?_
                    refine q_isub hx hb dX12_choose_75 rfl rfl (by omega) (fun x108268 h108269 => ?_)
                    refine u_ishr hx hb dX12_choose_76 (fun x108270 => ?_)
                    refine lv_iconst (v := 1) hx hb dX12_choose_77 (by decide) ?_
                    refine q_iand (M := 1) (k := 1) hx hb dX12_choose_78 (by decide) (by decide) (by decide) (fun x108271 h108272 => ?_)
                    refine lv_istore (lv' := [(8, .int x108271), (7, .int y108172), (6, .int y108174), (5, .int y108175), (4, .int y104896), (3, .int y104898), (2, .int y104899), (0, .ref h0), (1, .int u1)]) hx hb dX12_choose_79 hl (by decide) rfl (fun ls hl => ?_)
                    refine lv_iload hx hb dX12_choose_81 (lv_at hl 3 rfl) ?_
                    refine lv_iload hx hb dX12_choose_83 (lv_at hl 0 rfl) ?_
                    refine lv_iload hx hb dX12_choose_85 (lv_at hl 1 rfl) ?_
                    refine u_ishl hx hb dX12_choose_87 (fun x108273 => ?_)
                    refine u_ior hx hb dX12_choose_88 (fun x108274 => ?_)
                    refine lv_istore (lv' := [(5, .int x108274), (8, .int x108271), (7, .int y108172), (6, .int y108174), (4, .int y104896), (3, .int y104898), (2, .int y104899), (0, .ref h0), (1, .int u1)]) hx hb dX12_choose_89 hl (by decide) rfl (fun ls hl => ?_)
                    refine lv_iload hx hb dX12_choose_91 (lv_at hl 3 rfl) ?_
                    refine lv_iload hx hb dX12_choose_93 (lv_at hl 1 rfl) ?_
                    refine u_iadd hx hb dX12_choose_95 (fun x108275 => ?_)
                    refine lv_istore (lv' := [(6, .int x108275), (5, .int x108274), (8, .int x108271), (7, .int y108172), (4, .int y104896), (3, .int y104898), (2, .int y104899), (0, .ref h0), (1, .int u1)]) hx hb dX12_choose_96 hl (by decide) rfl (fun ls hl => ?_)
                    refine q_iinc hx hb dX12_choose_98 hl (k := 3) rfl rfl rfl (by omega) (by decide) (fun i108276 ls h108277 hl => ?_)
                    have hl : lv_has ls 9 [(7, .int i108276), (6, .int x108275), (5, .int x108274), (8, .int x108271), (4, .int y104896), (3, .int y104898), (2, .int y104899), (0, .ref h0), (1, .int u1)] := hl
                    refine lv_goto (tgt := 56) hx hb dX12_choose_101 (by decide) ?_
                    exact ih56 i108276 x108275 x108274 (by omega) (by omega) _ _ _ hW hF (lv_sub hl [0, 1, 2, 4, 5, 6, 7, 8] rfl)
              have hk108278 : (0 : Int32).toInt = 0 := rfl
              have hk108279 : (0 : Int32).toInt = 0 := rfl
              have hk108280 : (0 : Int32).toInt = 0 := rfl
              exact L108176 7 0 0 0 (by decide) (by omega) _ _ _ hW hF (lv_sub hl [0, 1, 2, 3, 4, 5, 6, 7] rfl)
        have hk108281 : (0 : Int32).toInt = 0 := rfl
        have hk108282 : (0 : Int32).toInt = 0 := rfl
        have hk108283 : ((-1) : Int32).toInt = -1 := rfl
        exact L104902 2147483648 f21 0 0 (-1) ((fm_I g23 rh0 rfl).trans ((fm_I g9 rh0 rfl).trans e2)) ((fm_R g23 rh0 rfl).trans ((fm_R g9 rh0 rfl).trans ((fm_R g4 rh0 rfl).trans mR))) ((fm_I g23 rh0 rfl).trans m17) ((congrArg (fun z => aI z (8 : Int32).toNatClampNeg) (fm_A g23 rR (by decide) rfl)).trans m12) (by decide) (by decide) z26 (by omega) _ _ _ hW hF (lv_sub hl [0, 1, 2, 3, 4] rfl)
      · refine lv_iconst (v := (-1)) hx hb dX12_choose_27 (by decide) ?_
        exact e_I E hW rfl ⟨⟨_, rfl, (by have hk : ((-1) : Int32).toInt = -1 := rfl; first | decide | omega)⟩, hF, z26⟩ dX12_choose_28
def rw_X12_judge : List (Nat × Nat) := []
def ms_X12_judge : List (Nat × Nat) := [(12, 0), (12, 6), (12, 7), (12, 8), (12, 33), (12, 34), (12, 35), (12, 36), (12, 37), (12, 38), (12, 46), (822, 0), (824, 0), (849, 0), (850, 0), (851, 0), (852, 0), (859, 0)]
def po_X12_judge (kp : Nat → Nat) (L : List Nat) (f0 : Nat → va_E) (h0 : Nat) (u1 : Int32) (u2 : Int32) : Option Value → (Nat → va_E) → Prop := fun v f => (∃ r : Int32, v = some (.int r) ∧ ((-1 : Int) ≤ r.toInt)) ∧ FM kp L ms_X12_judge f0 f ∧ (RF rw_X12_judge f0 f h0)
set_option maxHeartbeats 4000000 in
set_option maxRecDepth 100000 in
theorem c_X12_judge (l : Launch) (G : va_G) (cI cJ cZ cD cR cT : ClassId) (kp : Nat → Nat) (L : List Nat) (f0 : Nat → va_E) (hTH : TH cI cJ cZ cD cR cT kp L f0) (sz : Nat) (h0 : Nat) (u1 : Int32) (u2 : Int32) (rh0 : RK kp L h0 12) (hTX : TX (aI (f0 (oR (f0 h0) 2)))) : Met l yX12_judge (Cond.code yX12_judge cX12_judge 3 (some .int) :: wTab) ({ frames := 9, cells := 0, slots := 0, locals := 238 }) (va_Pc [.ref h0, .int u1, .int u2] (PreW G (tys6 cI cJ cZ cD cR cT) (va_pl L f0) sz)) (QT (po_X12_judge kp L f0 h0 u1 u2) G cI cJ cZ cD cR cT (va_A (va_pl L f0) sz) kp L) 0 0 (va_A (va_pl L f0) sz) := by
  refine metT (by decide) (Nat.le_of_ble_eq_true rfl) hTH ?_
  intro p e s m below meth c A ls E hW hl
  obtain ⟨hx, hb, -, hml, hown, hts, -, -, -⟩ := id E
  have hF : FM kp L ms_X12_judge f0 f0 := FM.rf
  have hl : lv_has ls 3 [(0, .ref h0), (1, .int u1), (2, .int u2)] := hl
  obtain ⟨pR, mR⟩ : ∃ x : Nat, oR (f0 h0) 2 = x := ⟨_, rfl⟩
  have rR : RK kp L pR 822 := by rw [← mR]; exact th_ref hTH rh0 (by decide) (by decide) rfl
  obtain ⟨p8, mp8⟩ : ∃ x : Int32, aI (f0 pR) (8 : Int32).toNatClampNeg = x := ⟨_, rfl⟩
  have hr8 : (0 : Int) ≤ p8.toInt ∧ p8.toInt ≤ 399 := rr_8 (th_row hTH rR) mp8 rfl
  rw [mR] at hTX
  refine lv_aload_n hx hb dX12_judge_0 rfl (lv_at hl 0 rfl) ?_
  refine lv_iconst (v := 0) hx hb dX12_judge_1 (by decide) ?_
  refine fp_RX12_82 E hW rh0 dX12_judge_2 (fun f1 H locs e2 n3 g4 hW => ?_)
  have z5 : RF rw_X12_judge f0 f1 h0 := rf_fm hTH rf_rf g4 rh0 rfl
  have hF := FM.tr hF g4 rfl
  refine lv_aload_n hx hb dX12_judge_5 rfl (lv_at hl 0 rfl) ?_
  refine lv_iload_n hx hb dX12_judge_6 rfl (lv_at hl 2 rfl) ?_
  refine t_callV (As := [.int u2]) (rest := []) E hW (c_X12_isSpan l G cI cJ cZ cD cR cT kp L f1 hW.2.2.2 _ h0 u2 rh0) rh0 (by decide) rfl wk_X12_isSpan tw_2031 rfl ⟨Nat.le_of_ble_eq_true rfl, Nat.le_of_ble_eq_true rfl⟩ ⟨rfl, rfl⟩ hl.1 rfl (Nat.le_of_ble_eq_true rfl) dX12_judge_7 ⟨Nat.le_of_ble_eq_true rfl, Nat.le_of_ble_eq_true rfl⟩ (fun v6 f7 H locs q8 hW => ?_)
  obtain ⟨⟨x10, rfl, p11⟩, g9⟩ := q8
  rw [((fm_R g4 rh0 rfl).trans mR), ((congrArg (fun z => aI z (8 : Int32).toNatClampNeg) (fm_A g4 rR (by decide) rfl)).trans mp8)] at p11
  have m12 : aI (f7 pR) (8 : Int32).toNatClampNeg = p8 := ((congrArg (fun z => aI z (8 : Int32).toNatClampNeg) (fm_A g9 rR (by decide) rfl)).trans ((congrArg (fun z => aI z (8 : Int32).toNatClampNeg) (fm_A g4 rR (by decide) rfl)).trans mp8))
  have z13 : RF rw_X12_judge f0 f7 h0 := rf_fm hTH z5 g9 rh0 rfl
  have hF := FM.tr hF g9 rfl
  have J59 : ∀ (f52 : Nat → va_E) (y56 : Int32) (m53 : oI (f52 h0) 0 = 0) (m54 : oR (f52 h0) 2 = pR) (m55 : aI (f52 pR) (8 : Int32).toNatClampNeg = p8) (b57 : (-1 : Int) ≤ y56.toInt) (z58 : RF rw_X12_judge f0 f52 h0) (H : Heap) (locs : List Loc) (ls : Array Slot), WS G cI cJ cZ cD cR cT A kp L f52 s H locs → FM kp L ms_X12_judge f0 f52 → lv_has ls 3 [(0, .ref h0), (1, .int u1), (2, .int u2)] → W p l e ({ frames := 9, cells := 0, slots := 0, locals := 238 }) s m ([.ref h0, .int u1, .int u2] : List Value).toArray below meth c H locs 0 0 (MQ below (QT (po_X12_judge kp L f0 h0 u1 u2) G cI cJ cZ cD cR cT A kp L) ([.ref h0, .int u1, .int u2] : List Value).toArray s 0 0 A) (F0 m 54 ls [.int y56]) := by
    intro f52 y56 m53 m54 m55 b57 z58 H locs ls hW hF hl
    exact e_I E hW rfl ⟨⟨_, rfl, (by first | omega | trivial)⟩, hF, z58⟩ dX12_judge_54
  refine q_if_eq (tgt := 44) hx hb dX12_judge_10 (by decide) rfl (fun c60 => ?_) (fun c60 => ?_)
  · clear p11
    refine lv_iconst (v := (-1)) hx hb dX12_judge_44 (by decide) ?_
    refine lv_goto (tgt := 54) hx hb dX12_judge_45 (by decide) ?_
    exact J59 f7 (-1) ((fm_I g9 rh0 rfl).trans e2) ((fm_R g9 rh0 rfl).trans ((fm_R g4 rh0 rfl).trans mR)) m12 (by decide) z13 _ _ _ hW hF (lv_sub hl [0, 1, 2] rfl)
  · have q61 : 1 ≤ u2.toInt ∧ u2.toInt ≤ 104 ∧ p8.toInt + u2.toInt ≤ 399 := by omega
    clear p11
    refine lv_aload_n hx hb dX12_judge_13 rfl (lv_at hl 0 rfl) ?_
    refine fg_RX12_504 E hW rh0 dX12_judge_14 (fun y62 m63 b64 => ?_)
    refine q_if_eq (tgt := 44) hx hb dX12_judge_17 (by decide) rfl (fun c65 => ?_) (fun c65 => ?_)
    · refine lv_iconst (v := (-1)) hx hb dX12_judge_44 (by decide) ?_
      refine lv_goto (tgt := 54) hx hb dX12_judge_45 (by decide) ?_
      exact J59 f7 (-1) ((fm_I g9 rh0 rfl).trans e2) ((fm_R g9 rh0 rfl).trans ((fm_R g4 rh0 rfl).trans mR)) m12 (by decide) z13 _ _ _ hW hF (lv_sub hl [0, 1, 2] rfl)
    · refine lv_aload_n hx hb dX12_judge_20 rfl (lv_at hl 0 rfl) ?_
      refine t_callV (As := []) (rest := []) E hW (c_X12_areThere l G cI cJ cZ cD cR cT kp L f7 hW.2.2.2 _ h0 rh0) rh0 (by decide) rfl wk_X12_areThere tw_2035 rfl ⟨Nat.le_of_ble_eq_true rfl, Nat.le_of_ble_eq_true rfl⟩ ⟨rfl, rfl⟩ hl.1 rfl (Nat.le_of_ble_eq_true rfl) dX12_judge_21 ⟨Nat.le_of_ble_eq_true rfl, Nat.le_of_ble_eq_true rfl⟩ (fun v66 f67 H locs q68 hW => ?_)
      obtain ⟨⟨x70, rfl, p71⟩, g69⟩ := q68
      have z72 : RF rw_X12_judge f0 f67 h0 := rf_fm hTH z13 g69 rh0 rfl
      have hF := FM.tr hF g69 rfl
      refine q_if_eq (tgt := 44) hx hb dX12_judge_24 (by decide) rfl (fun c73 => ?_) (fun c73 => ?_)
      · refine lv_iconst (v := (-1)) hx hb dX12_judge_44 (by decide) ?_
        refine lv_goto (tgt := 54) hx hb dX12_judge_45 (by decide) ?_
        exact J59 f67 (-1) ((fm_I g69 rh0 rfl).trans ((fm_I g9 rh0 rfl).trans e2)) ((fm_R g69 rh0 rfl).trans ((fm_R g9 rh0 rfl).trans ((fm_R g4 rh0 rfl).trans mR))) ((congrArg (fun z => aI z (8 : Int32).toNatClampNeg) (fm_A g69 rR (by decide) rfl)).trans m12) (by decide) z72 _ _ _ hW hF (lv_sub hl [0, 1, 2] rfl)
      · refine lv_iload_n hx hb dX12_judge_27 rfl (lv_at hl 1 rfl) ?_
        refine q_i2l hx hb dX12_judge_28 rfl (fun x74 h75 => ?_)
        have hb76 : -2147483648 ≤ x74.toInt ∧ x74.toInt ≤ 2147483647 := by have := i32_b u1; omega
        refine lv_lconst (v := 0) hx hb dX12_judge_29 (by decide) ?_
        refine lv_lconst (v := 1) hx hb dX12_judge_30 (by decide) ?_
        refine lv_aload_n hx hb dX12_judge_31 rfl (lv_at hl 0 rfl) ?_
        refine fg_RX12_446 E hW rh0 dX12_judge_32 (fun y77 m78 b79 => ?_)
        refine u_lshl hx hb dX12_judge_35 (fun x80 => ?_)
        refine lv_lconst (v := 1) hx hb dX12_judge_36 (by decide) ?_
        refine u_lsub hx hb dX12_judge_37 (fun x81 => ?_)
        refine t_callS (As := [.long x74, .long 0, .long x81]) (rest := []) E hW (c_X12_in l G cI cJ cZ cD cR cT kp L f67 hW.2.2.2 _ x74 0 x81) wk_X12_in tw_1554 rfl ⟨Nat.le_of_ble_eq_true rfl, Nat.le_of_ble_eq_true rfl⟩ ⟨rfl, rfl⟩ hl.1 rfl (Nat.le_of_ble_eq_true rfl) dX12_judge_38 ⟨Nat.le_of_ble_eq_true rfl, Nat.le_of_ble_eq_true rfl⟩ (fun v82 f83 H locs q84 hW => ?_)
        obtain ⟨⟨x86, rfl, p87⟩, g85⟩ := q84
        have p87 : (x86.toInt = 1 ∧ 0 ≤ x74.toInt ∧ x74.toInt ≤ x81.toInt) ∨ (x86.toInt = 0 ∧ (x74.toInt < 0 ∨ x81.toInt < x74.toInt)) := p87
        have m88 : aI (f83 pR) (8 : Int32).toNatClampNeg = p8 := ((congrArg (fun z => aI z (8 : Int32).toNatClampNeg) (fm_A g85 rR (by decide) rfl)).trans ((congrArg (fun z => aI z (8 : Int32).toNatClampNeg) (fm_A g69 rR (by decide) rfl)).trans m12))
        have z89 : RF rw_X12_judge f0 f83 h0 := rf_fm hTH z72 g85 rh0 rfl
        have hF := FM.tr hF g85 rfl
        refine q_if_ne (tgt := 48) hx hb dX12_judge_41 (by decide) rfl (fun c90 => ?_) (fun c90 => ?_)
        · have q91 : 0 ≤ x74.toInt ∧ x74.toInt ≤ x81.toInt := by omega
          clear p87
          refine lv_aload_n hx hb dX12_judge_48 rfl (lv_at hl 0 rfl) ?_
          refine lv_iload_n hx hb dX12_judge_49 rfl (lv_at hl 1 rfl) ?_
          refine lv_iload_n hx hb dX12_judge_50 rfl (lv_at hl 2 rfl) ?_
          refine t_callV (As := [.int u1, .int u2]) (rest := []) E hW (c_X12_worst l G cI cJ cZ cD cR cT kp L f83 hW.2.2.2 _ h0 u1 u2 rh0 (by omega) (by rw [((fm_R g85 rh0 rfl).trans ((fm_R g69 rh0 rfl).trans ((fm_R g9 rh0 rfl).trans ((fm_R g4 rh0 rfl).trans mR)))), m88]; omega) (by rw [((fm_R g85 rh0 rfl).trans ((fm_R g69 rh0 rfl).trans ((fm_R g9 rh0 rfl).trans ((fm_R g4 rh0 rfl).trans mR))))]; exact (tx_rf hTX z89 mR rfl rfl))) rh0 (by decide) rfl wk_X12_worst tw_2039 rfl ⟨Nat.le_of_ble_eq_true rfl, Nat.le_of_ble_eq_true rfl⟩ ⟨rfl, rfl⟩ hl.1 rfl (Nat.le_of_ble_eq_true rfl) dX12_judge_51 ⟨Nat.le_of_ble_eq_true rfl, Nat.le_of_ble_eq_true rfl⟩ (fun v92 f93 H locs q94 hW => ?_)
          obtain ⟨⟨x97, rfl, p98⟩, g95, h96⟩ := q94
          have z99 : RF rw_X12_judge f0 f93 h0 := rf_call z89 h96 mR ((fm_R g85 rh0 rfl).trans ((fm_R g69 rh0 rfl).trans ((fm_R g9 rh0 rfl).trans ((fm_R g4 rh0 rfl).trans mR)))) rfl
          have hF := FM.tr hF g95 rfl
          exact J59 f93 x97 ((fm_I g95 rh0 rfl).trans ((fm_I g85 rh0 rfl).trans ((fm_I g69 rh0 rfl).trans ((fm_I g9 rh0 rfl).trans e2)))) ((fm_R g95 rh0 rfl).trans ((fm_R g85 rh0 rfl).trans ((fm_R g69 rh0 rfl).trans ((fm_R g9 rh0 rfl).trans ((fm_R g4 rh0 rfl).trans mR))))) ((show aI (f93 pR) (8 : Int32).toNatClampNeg = aI (f83 pR) (8 : Int32).toNatClampNeg from rf_get h96 ((fm_R g85 rh0 rfl).trans ((fm_R g69 rh0 rfl).trans ((fm_R g9 rh0 rfl).trans ((fm_R g4 rh0 rfl).trans mR)))) 8 rfl).trans m88) (by omega) z99 _ _ _ hW hF (lv_sub hl [0, 1, 2] rfl)
        · have q100 : (x74.toInt < 0 ∨ x81.toInt < x74.toInt) := by omega
          clear p87
          refine lv_iconst (v := (-1)) hx hb dX12_judge_44 (by decide) ?_
          refine lv_goto (tgt := 54) hx hb dX12_judge_45 (by decide) ?_
          exact J59 f83 (-1) ((fm_I g85 rh0 rfl).trans ((fm_I g69 rh0 rfl).trans ((fm_I g9 rh0 rfl).trans e2))) ((fm_R g85 rh0 rfl).trans ((fm_R g69 rh0 rfl).trans ((fm_R g9 rh0 rfl).trans ((fm_R g4 rh0 rfl).trans mR)))) m88 (by decide) z89 _ _ _ hW hF (lv_sub hl [0, 1, 2] rfl)
