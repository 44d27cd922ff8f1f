theorem tw_897 : Cond.fieldLink RJ0 38 "java/lang/String" "COMPACT_STRINGS" "Z" ∈ wTab := mw (tt_4 _ (List.mem_of_getElem? (i := 75) (by decide +kernel))) rfl
theorem tw_913 : Cond.fieldLink RJ0 1053 "jdk/internal/util/Preconditions" "SIOOBE_FORMATTER" "Ljava/util/function/BiFunction;" ∈ wTab := mw (tt_4 _ (List.mem_of_getElem? (i := 91) (by decide +kernel))) rfl
theorem tw_2093 : Cond.fieldLink RJ0 9 "java/lang/String" "value" "[B" ∈ wTab := mw (tt_9 _ (List.mem_of_getElem? (i := 71) (by decide +kernel))) rfl
theorem tw_2094 : Cond.fieldLink RJ0 15 "java/lang/String" "coder" "B" ∈ wTab := mw (tt_9 _ (List.mem_of_getElem? (i := 72) (by decide +kernel))) rfl
theorem dX5_isDigit_0 : decode cX5_isDigit 0 = .ok (.iload_n 0, 1) := by decide +kernel
theorem dX5_isDigit_1 : decode cX5_isDigit 1 = .ok (.bipush 48, 2) := by decide +kernel
theorem dX5_isDigit_3 : decode cX5_isDigit 3 = .ok (.if_icmp .lt 13, 3) := by decide +kernel
theorem dX5_isDigit_16 : decode cX5_isDigit 16 = .ok (.iconst 0, 1) := by decide +kernel
theorem dX5_isDigit_17 : decode cX5_isDigit 17 = .ok (.ireturn, 1) := by decide +kernel
theorem dX5_isDigit_6 : decode cX5_isDigit 6 = .ok (.iload_n 0, 1) := by decide +kernel
theorem dX5_isDigit_7 : decode cX5_isDigit 7 = .ok (.bipush 57, 2) := by decide +kernel
theorem dX5_isDigit_9 : decode cX5_isDigit 9 = .ok (.if_icmp .gt 7, 3) := by decide +kernel
theorem dX5_isDigit_12 : decode cX5_isDigit 12 = .ok (.iconst 1, 1) := by decide +kernel
theorem dX5_isDigit_13 : decode cX5_isDigit 13 = .ok (.goto 4, 3) := by decide +kernel
theorem dX5_isLetter_0 : decode cX5_isLetter 0 = .ok (.iload_n 0, 1) := by decide +kernel
theorem dX5_isLetter_1 : decode cX5_isLetter 1 = .ok (.bipush 97, 2) := by decide +kernel
theorem dX5_isLetter_3 : decode cX5_isLetter 3 = .ok (.if_icmp .lt 13, 3) := by decide +kernel
theorem dX5_isLetter_16 : decode cX5_isLetter 16 = .ok (.iconst 0, 1) := by decide +kernel
theorem dX5_isLetter_17 : decode cX5_isLetter 17 = .ok (.ireturn, 1) := by decide +kernel
theorem dX5_isLetter_6 : decode cX5_isLetter 6 = .ok (.iload_n 0, 1) := by decide +kernel
theorem dX5_isLetter_7 : decode cX5_isLetter 7 = .ok (.bipush 122, 2) := by decide +kernel
theorem dX5_isLetter_9 : decode cX5_isLetter 9 = .ok (.if_icmp .gt 7, 3) := by decide +kernel
theorem dX5_isLetter_12 : decode cX5_isLetter 12 = .ok (.iconst 1, 1) := by decide +kernel
theorem dX5_isLetter_13 : decode cX5_isLetter 13 = .ok (.goto 4, 3) := by decide +kernel
theorem dX5_endOfRun_0 : decode cX5_endOfRun 0 = .ok (.aload_n 0, 1) := by decide +kernel
theorem dX5_endOfRun_1 : decode cX5_endOfRun 1 = .ok (.getfield 85, 3) := by decide +kernel
theorem dX5_endOfRun_4 : decode cX5_endOfRun 4 = .ok (.iload_n 1, 1) := by decide +kernel
theorem dX5_endOfRun_5 : decode cX5_endOfRun 5 = .ok (.iaload, 1) := by decide +kernel
theorem dX5_endOfRun_6 : decode cX5_endOfRun 6 = .ok (.istore_n 2, 1) := by decide +kernel
theorem dX5_endOfRun_7 : decode cX5_endOfRun 7 = .ok (.iload_n 1, 1) := by decide +kernel
theorem dX5_endOfRun_8 : decode cX5_endOfRun 8 = .ok (.iconst 1, 1) := by decide +kernel
theorem dX5_endOfRun_9 : decode cX5_endOfRun 9 = .ok (.iadd, 1) := by decide +kernel
theorem dX5_endOfRun_10 : decode cX5_endOfRun 10 = .ok (.istore_n 3, 1) := by decide +kernel
theorem dX5_endOfRun_11 : decode cX5_endOfRun 11 = .ok (.iload_n 3, 1) := by decide +kernel
theorem dX5_endOfRun_12 : decode cX5_endOfRun 12 = .ok (.aload_n 0, 1) := by decide +kernel
theorem dX5_endOfRun_13 : decode cX5_endOfRun 13 = .ok (.getfield 80, 3) := by decide +kernel
theorem dX5_endOfRun_16 : decode cX5_endOfRun 16 = .ok (.if_icmp .ge 47, 3) := by decide +kernel
theorem dX5_endOfRun_63 : decode cX5_endOfRun 63 = .ok (.iload_n 3, 1) := by decide +kernel
theorem dX5_endOfRun_64 : decode cX5_endOfRun 64 = .ok (.ireturn, 1) := by decide +kernel
theorem dX5_endOfRun_19 : decode cX5_endOfRun 19 = .ok (.iload_n 2, 1) := by decide +kernel
theorem dX5_endOfRun_20 : decode cX5_endOfRun 20 = .ok (.invokestatic 92, 3) := by decide +kernel
theorem dX5_endOfRun_23 : decode cX5_endOfRun 23 = .ok (.ifCond .eq 15, 3) := by decide +kernel
theorem dX5_endOfRun_38 : decode cX5_endOfRun 38 = .ok (.iload_n 2, 1) := by decide +kernel
theorem dX5_endOfRun_39 : decode cX5_endOfRun 39 = .ok (.invokestatic 100, 3) := by decide +kernel
theorem dX5_endOfRun_42 : decode cX5_endOfRun 42 = .ok (.ifCond .eq 21, 3) := by decide +kernel
theorem dX5_endOfRun_45 : decode cX5_endOfRun 45 = .ok (.aload_n 0, 1) := by decide +kernel
theorem dX5_endOfRun_46 : decode cX5_endOfRun 46 = .ok (.getfield 85, 3) := by decide +kernel
theorem dX5_endOfRun_49 : decode cX5_endOfRun 49 = .ok (.iload_n 3, 1) := by decide +kernel
theorem dX5_endOfRun_50 : decode cX5_endOfRun 50 = .ok (.iaload, 1) := by decide +kernel
theorem dX5_endOfRun_51 : decode cX5_endOfRun 51 = .ok (.invokestatic 100, 3) := by decide +kernel
theorem dX5_endOfRun_54 : decode cX5_endOfRun 54 = .ok (.ifCond .eq 9, 3) := by decide +kernel
theorem dX5_endOfRun_57 : decode cX5_endOfRun 57 = .ok (.iinc 3 1, 3) := by decide +kernel
theorem dX5_endOfRun_60 : decode cX5_endOfRun 60 = .ok (.goto (-49), 3) := by decide +kernel
theorem dX5_endOfRun_26 : decode cX5_endOfRun 26 = .ok (.aload_n 0, 1) := by decide +kernel
theorem dX5_endOfRun_27 : decode cX5_endOfRun 27 = .ok (.getfield 85, 3) := by decide +kernel
theorem dX5_endOfRun_30 : decode cX5_endOfRun 30 = .ok (.iload_n 3, 1) := by decide +kernel
theorem dX5_endOfRun_31 : decode cX5_endOfRun 31 = .ok (.iaload, 1) := by decide +kernel
theorem dX5_endOfRun_32 : decode cX5_endOfRun 32 = .ok (.invokestatic 92, 3) := by decide +kernel
theorem dX5_endOfRun_35 : decode cX5_endOfRun 35 = .ok (.ifCond .ne 22, 3) := by decide +kernel
theorem dX5_numberIn_0 : decode cX5_numberIn 0 = .ok (.iconst 0, 1) := by decide +kernel
theorem dX5_numberIn_1 : decode cX5_numberIn 1 = .ok (.istore_n 3, 1) := by decide +kernel
theorem dX5_numberIn_2 : decode cX5_numberIn 2 = .ok (.iload_n 1, 1) := by decide +kernel
theorem dX5_numberIn_3 : decode cX5_numberIn 3 = .ok (.istore 4, 2) := by decide +kernel
theorem dX5_numberIn_5 : decode cX5_numberIn 5 = .ok (.iload 4, 2) := by decide +kernel
theorem dX5_numberIn_7 : decode cX5_numberIn 7 = .ok (.iload_n 2, 1) := by decide +kernel
theorem dX5_numberIn_8 : decode cX5_numberIn 8 = .ok (.if_icmp .ge 30, 3) := by decide +kernel
theorem dX5_numberIn_38 : decode cX5_numberIn 38 = .ok (.iload_n 3, 1) := by decide +kernel
theorem dX5_numberIn_39 : decode cX5_numberIn 39 = .ok (.ireturn, 1) := by decide +kernel
theorem dX5_numberIn_11 : decode cX5_numberIn 11 = .ok (.iload_n 3, 1) := by decide +kernel
theorem dX5_numberIn_12 : decode cX5_numberIn 12 = .ok (.bipush 10, 2) := by decide +kernel
theorem dX5_numberIn_14 : decode cX5_numberIn 14 = .ok (.imul, 1) := by decide +kernel
theorem dX5_numberIn_15 : decode cX5_numberIn 15 = .ok (.aload_n 0, 1) := by decide +kernel
theorem dX5_numberIn_16 : decode cX5_numberIn 16 = .ok (.getfield 85, 3) := by decide +kernel
theorem dX5_numberIn_19 : decode cX5_numberIn 19 = .ok (.iload 4, 2) := by decide +kernel
theorem dX5_numberIn_21 : decode cX5_numberIn 21 = .ok (.iaload, 1) := by decide +kernel
theorem dX5_numberIn_22 : decode cX5_numberIn 22 = .ok (.iadd, 1) := by decide +kernel
theorem dX5_numberIn_23 : decode cX5_numberIn 23 = .ok (.bipush 48, 2) := by decide +kernel
theorem dX5_numberIn_25 : decode cX5_numberIn 25 = .ok (.isub, 1) := by decide +kernel
theorem dX5_numberIn_26 : decode cX5_numberIn 26 = .ok (.ldc 106, 2) := by decide +kernel
theorem dX5_numberIn_28 : decode cX5_numberIn 28 = .ok (.invokestatic 107, 3) := by decide +kernel
theorem dX5_numberIn_31 : decode cX5_numberIn 31 = .ok (.istore_n 3, 1) := by decide +kernel
theorem dX5_numberIn_32 : decode cX5_numberIn 32 = .ok (.iinc 4 1, 3) := by decide +kernel
theorem dX5_numberIn_35 : decode cX5_numberIn 35 = .ok (.goto (-30), 3) := by decide +kernel
theorem dX8_valueOf_0 : decode cX8_valueOf 0 = .ok (.iload_n 0, 1) := by decide +kernel
theorem dX8_valueOf_1 : decode cX8_valueOf 1 = .ok (.bipush 23, 2) := by decide +kernel
theorem dX8_valueOf_3 : decode cX8_valueOf 3 = .ok (.iushr, 1) := by decide +kernel
theorem dX8_valueOf_4 : decode cX8_valueOf 4 = .ok (.sipush 255, 3) := by decide +kernel
theorem dX8_valueOf_7 : decode cX8_valueOf 7 = .ok (.iand, 1) := by decide +kernel
theorem dX8_valueOf_8 : decode cX8_valueOf 8 = .ok (.istore_n 1, 1) := by decide +kernel
theorem dX8_valueOf_9 : decode cX8_valueOf 9 = .ok (.iload_n 0, 1) := by decide +kernel
theorem dX8_valueOf_10 : decode cX8_valueOf 10 = .ok (.ldc 44, 2) := by decide +kernel
theorem dX8_valueOf_12 : decode cX8_valueOf 12 = .ok (.iand, 1) := by decide +kernel
theorem dX8_valueOf_13 : decode cX8_valueOf 13 = .ok (.istore_n 2, 1) := by decide +kernel
theorem dX8_valueOf_14 : decode cX8_valueOf 14 = .ok (.iload_n 0, 1) := by decide +kernel
theorem dX8_valueOf_15 : decode cX8_valueOf 15 = .ok (.ifCond .ge 19, 3) := by decide +kernel
theorem dX8_valueOf_34 : decode cX8_valueOf 34 = .ok (.iload_n 1, 1) := by decide +kernel
theorem dX8_valueOf_35 : decode cX8_valueOf 35 = .ok (.sipush 136, 3) := by decide +kernel
theorem dX8_valueOf_38 : decode cX8_valueOf 38 = .ok (.if_icmp .le 7, 3) := by decide +kernel
theorem dX8_valueOf_45 : decode cX8_valueOf 45 = .ok (.iload_n 1, 1) := by decide +kernel
theorem dX8_valueOf_46 : decode cX8_valueOf 46 = .ok (.ifCond .ne 8, 3) := by decide +kernel
theorem dX8_valueOf_59 : decode cX8_valueOf 59 = .ok (.dstore_n 3, 1) := by decide +kernel
theorem dX8_valueOf_60 : decode cX8_valueOf 60 = .ok (.sipush 150, 3) := by decide +kernel
theorem dX8_valueOf_63 : decode cX8_valueOf 63 = .ok (.iload_n 1, 1) := by decide +kernel
theorem dX8_valueOf_64 : decode cX8_valueOf 64 = .ok (.iconst 1, 1) := by decide +kernel
theorem dX8_valueOf_65 : decode cX8_valueOf 65 = .ok (.invokestatic 46, 3) := by decide +kernel
theorem dX8_valueOf_68 : decode cX8_valueOf 68 = .ok (.isub, 1) := by decide +kernel
theorem dX8_valueOf_69 : decode cX8_valueOf 69 = .ok (.istore 5, 2) := by decide +kernel
theorem dX8_valueOf_71 : decode cX8_valueOf 71 = .ok (.iconst 0, 1) := by decide +kernel
theorem dX8_valueOf_72 : decode cX8_valueOf 72 = .ok (.istore 6, 2) := by decide +kernel
theorem dX8_valueOf_74 : decode cX8_valueOf 74 = .ok (.iload 6, 2) := by decide +kernel
theorem dX8_valueOf_76 : decode cX8_valueOf 76 = .ok (.iload 5, 2) := by decide +kernel
theorem dX8_valueOf_78 : decode cX8_valueOf 78 = .ok (.if_icmp .ge 15, 3) := by decide +kernel
theorem dX8_valueOf_93 : decode cX8_valueOf 93 = .ok (.dload_n 3, 1) := by decide +kernel
theorem dX8_valueOf_94 : decode cX8_valueOf 94 = .ok (.ldc2_w 49, 3) := by decide +kernel
theorem dX8_valueOf_97 : decode cX8_valueOf 97 = .ok (.dcmp .l, 1) := by decide +kernel
theorem dX8_valueOf_98 : decode cX8_valueOf 98 = .ok (.ifCond .le 9, 3) := by decide +kernel
theorem dX8_valueOf_108 : decode cX8_valueOf 108 = .ok (.dreturn, 1) := by decide +kernel
theorem dX8_valueOf_107 : decode cX8_valueOf 107 = .ok (.dload_n 3, 1) := by decide +kernel
theorem dX8_valueOf_101 : decode cX8_valueOf 101 = .ok (.ldc2_w 42, 3) := by decide +kernel
theorem dX8_valueOf_104 : decode cX8_valueOf 104 = .ok (.goto 4, 3) := by decide +kernel
theorem dX8_valueOf_81 : decode cX8_valueOf 81 = .ok (.dload_n 3, 1) := by decide +kernel
theorem dX8_valueOf_82 : decode cX8_valueOf 82 = .ok (.ldc2_w 40, 3) := by decide +kernel
theorem dX8_valueOf_85 : decode cX8_valueOf 85 = .ok (.ddiv, 1) := by decide +kernel
theorem dX8_valueOf_86 : decode cX8_valueOf 86 = .ok (.dstore_n 3, 1) := by decide +kernel
theorem dX8_valueOf_87 : decode cX8_valueOf 87 = .ok (.iinc 6 1, 3) := by decide +kernel
theorem dX8_valueOf_90 : decode cX8_valueOf 90 = .ok (.goto (-16), 3) := by decide +kernel
theorem dX8_valueOf_54 : decode cX8_valueOf 54 = .ok (.iload_n 2, 1) := by decide +kernel
theorem dX8_valueOf_55 : decode cX8_valueOf 55 = .ok (.ldc 45, 2) := by decide +kernel
theorem dX8_valueOf_57 : decode cX8_valueOf 57 = .ok (.ior, 1) := by decide +kernel
theorem dX8_valueOf_58 : decode cX8_valueOf 58 = .ok (.i2d, 1) := by decide +kernel
theorem dX8_valueOf_49 : decode cX8_valueOf 49 = .ok (.iload_n 2, 1) := by decide +kernel
theorem dX8_valueOf_50 : decode cX8_valueOf 50 = .ok (.i2d, 1) := by decide +kernel
theorem dX8_valueOf_51 : decode cX8_valueOf 51 = .ok (.goto 8, 3) := by decide +kernel
theorem dX8_valueOf_41 : decode cX8_valueOf 41 = .ok (.ldc2_w 42, 3) := by decide +kernel
theorem dX8_valueOf_44 : decode cX8_valueOf 44 = .ok (.dreturn, 1) := by decide +kernel
theorem dX8_valueOf_18 : decode cX8_valueOf 18 = .ok (.iload_n 1, 1) := by decide +kernel
theorem dX8_valueOf_19 : decode cX8_valueOf 19 = .ok (.ifCond .ne 11, 3) := by decide +kernel
theorem dX8_valueOf_33 : decode cX8_valueOf 33 = .ok (.dreturn, 1) := by decide +kernel
theorem dX8_valueOf_30 : decode cX8_valueOf 30 = .ok (.ldc2_w 42, 3) := by decide +kernel
theorem dX8_valueOf_22 : decode cX8_valueOf 22 = .ok (.iload_n 2, 1) := by decide +kernel
theorem dX8_valueOf_23 : decode cX8_valueOf 23 = .ok (.ifCond .ne 7, 3) := by decide +kernel
theorem dX8_valueOf_26 : decode cX8_valueOf 26 = .ok (.dconst 0, 1) := by decide +kernel
theorem dX8_valueOf_27 : decode cX8_valueOf 27 = .ok (.goto 6, 3) := by decide +kernel
theorem dX8_readNumbers_0 : decode cX8_readNumbers 0 = .ok (.aload_n 0, 1) := by decide +kernel
theorem dX8_readNumbers_1 : decode cX8_readNumbers 1 = .ok (.aload_n 0, 1) := by decide +kernel
theorem dX8_readNumbers_2 : decode cX8_readNumbers 2 = .ok (.getfield 19, 3) := by decide +kernel
theorem dX8_readNumbers_5 : decode cX8_readNumbers 5 = .ok (.iconst 4, 1) := by decide +kernel
theorem dX8_readNumbers_6 : decode cX8_readNumbers 6 = .ok (.idiv, 1) := by decide +kernel
theorem dX8_readNumbers_7 : decode cX8_readNumbers 7 = .ok (.bipush 40, 2) := by decide +kernel
theorem dX8_readNumbers_9 : decode cX8_readNumbers 9 = .ok (.invokestatic 23, 3) := by decide +kernel
theorem dX8_readNumbers_12 : decode cX8_readNumbers 12 = .ok (.putfield 29, 3) := by decide +kernel
theorem dX8_readNumbers_15 : decode cX8_readNumbers 15 = .ok (.iconst 0, 1) := by decide +kernel
theorem dX8_readNumbers_16 : decode cX8_readNumbers 16 = .ok (.istore_n 1, 1) := by decide +kernel
theorem dX8_readNumbers_17 : decode cX8_readNumbers 17 = .ok (.iload_n 1, 1) := by decide +kernel
theorem dX8_readNumbers_18 : decode cX8_readNumbers 18 = .ok (.aload_n 0, 1) := by decide +kernel
theorem dX8_readNumbers_19 : decode cX8_readNumbers 19 = .ok (.getfield 29, 3) := by decide +kernel
theorem dX8_readNumbers_22 : decode cX8_readNumbers 22 = .ok (.if_icmp .ge 64, 3) := by decide +kernel
theorem dX8_readNumbers_86 : decode cX8_readNumbers 86 = .ok (.aload_n 0, 1) := by decide +kernel
theorem dX8_readNumbers_87 : decode cX8_readNumbers 87 = .ok (.getfield 29, 3) := by decide +kernel
theorem dX8_readNumbers_90 : decode cX8_readNumbers 90 = .ok (.ireturn, 1) := by decide +kernel
theorem dX8_readNumbers_25 : decode cX8_readNumbers 25 = .ok (.iload_n 1, 1) := by decide +kernel
theorem dX8_readNumbers_26 : decode cX8_readNumbers 26 = .ok (.iconst 4, 1) := by decide +kernel
theorem dX8_readNumbers_27 : decode cX8_readNumbers 27 = .ok (.imul, 1) := by decide +kernel
theorem dX8_readNumbers_28 : decode cX8_readNumbers 28 = .ok (.istore_n 2, 1) := by decide +kernel
theorem dX8_readNumbers_29 : decode cX8_readNumbers 29 = .ok (.aload_n 0, 1) := by decide +kernel
theorem dX8_readNumbers_30 : decode cX8_readNumbers 30 = .ok (.getfield 15, 3) := by decide +kernel
theorem dX8_readNumbers_33 : decode cX8_readNumbers 33 = .ok (.iload_n 1, 1) := by decide +kernel
theorem dX8_readNumbers_34 : decode cX8_readNumbers 34 = .ok (.aload_n 0, 1) := by decide +kernel
theorem dX8_readNumbers_35 : decode cX8_readNumbers 35 = .ok (.getfield 9, 3) := by decide +kernel
theorem dX8_readNumbers_38 : decode cX8_readNumbers 38 = .ok (.iload_n 2, 1) := by decide +kernel
theorem dX8_readNumbers_39 : decode cX8_readNumbers 39 = .ok (.iaload, 1) := by decide +kernel
theorem dX8_readNumbers_40 : decode cX8_readNumbers 40 = .ok (.bipush 24, 2) := by decide +kernel
theorem dX8_readNumbers_42 : decode cX8_readNumbers 42 = .ok (.ishl, 1) := by decide +kernel
theorem dX8_readNumbers_43 : decode cX8_readNumbers 43 = .ok (.aload_n 0, 1) := by decide +kernel
theorem dX8_readNumbers_44 : decode cX8_readNumbers 44 = .ok (.getfield 9, 3) := by decide +kernel
theorem dX8_readNumbers_47 : decode cX8_readNumbers 47 = .ok (.iload_n 2, 1) := by decide +kernel
theorem dX8_readNumbers_48 : decode cX8_readNumbers 48 = .ok (.iconst 1, 1) := by decide +kernel
theorem dX8_readNumbers_49 : decode cX8_readNumbers 49 = .ok (.iadd, 1) := by decide +kernel
theorem dX8_readNumbers_50 : decode cX8_readNumbers 50 = .ok (.iaload, 1) := by decide +kernel
theorem dX8_readNumbers_51 : decode cX8_readNumbers 51 = .ok (.bipush 16, 2) := by decide +kernel
theorem dX8_readNumbers_53 : decode cX8_readNumbers 53 = .ok (.ishl, 1) := by decide +kernel
theorem dX8_readNumbers_54 : decode cX8_readNumbers 54 = .ok (.ior, 1) := by decide +kernel
theorem dX8_readNumbers_55 : decode cX8_readNumbers 55 = .ok (.aload_n 0, 1) := by decide +kernel
theorem dX8_readNumbers_56 : decode cX8_readNumbers 56 = .ok (.getfield 9, 3) := by decide +kernel
theorem dX8_readNumbers_59 : decode cX8_readNumbers 59 = .ok (.iload_n 2, 1) := by decide +kernel
theorem dX8_readNumbers_60 : decode cX8_readNumbers 60 = .ok (.iconst 2, 1) := by decide +kernel
theorem dX8_readNumbers_61 : decode cX8_readNumbers 61 = .ok (.iadd, 1) := by decide +kernel
theorem dX8_readNumbers_62 : decode cX8_readNumbers 62 = .ok (.iaload, 1) := by decide +kernel
theorem dX8_readNumbers_63 : decode cX8_readNumbers 63 = .ok (.bipush 8, 2) := by decide +kernel
theorem dX8_readNumbers_65 : decode cX8_readNumbers 65 = .ok (.ishl, 1) := by decide +kernel
theorem dX8_readNumbers_66 : decode cX8_readNumbers 66 = .ok (.ior, 1) := by decide +kernel
theorem dX8_readNumbers_67 : decode cX8_readNumbers 67 = .ok (.aload_n 0, 1) := by decide +kernel
theorem dX8_readNumbers_68 : decode cX8_readNumbers 68 = .ok (.getfield 9, 3) := by decide +kernel
theorem dX8_readNumbers_71 : decode cX8_readNumbers 71 = .ok (.iload_n 2, 1) := by decide +kernel
theorem dX8_readNumbers_72 : decode cX8_readNumbers 72 = .ok (.iconst 3, 1) := by decide +kernel
theorem dX8_readNumbers_73 : decode cX8_readNumbers 73 = .ok (.iadd, 1) := by decide +kernel
theorem dX8_readNumbers_74 : decode cX8_readNumbers 74 = .ok (.iaload, 1) := by decide +kernel
theorem dX8_readNumbers_75 : decode cX8_readNumbers 75 = .ok (.ior, 1) := by decide +kernel
theorem dX8_readNumbers_76 : decode cX8_readNumbers 76 = .ok (.invokestatic 32, 3) := by decide +kernel
theorem dX8_readNumbers_79 : decode cX8_readNumbers 79 = .ok (.dastore, 1) := by decide +kernel
theorem dX8_readNumbers_80 : decode cX8_readNumbers 80 = .ok (.iinc 1 1, 3) := by decide +kernel
theorem dX8_readNumbers_83 : decode cX8_readNumbers 83 = .ok (.goto (-66), 3) := by decide +kernel
theorem dX8_nearest_0 : decode cX8_nearest 0 = .ok (.iload_n 1, 1) := by decide +kernel
theorem dX8_nearest_1 : decode cX8_nearest 1 = .ok (.istore_n 3, 1) := by decide +kernel
theorem dX8_nearest_2 : decode cX8_nearest 2 = .ok (.iload_n 3, 1) := by decide +kernel
theorem dX8_nearest_3 : decode cX8_nearest 3 = .ok (.ifCond .lt 36, 3) := by decide +kernel
theorem dX8_nearest_39 : decode cX8_nearest 39 = .ok (.ldc2_w 42, 3) := by decide +kernel
theorem dX8_nearest_42 : decode cX8_nearest 42 = .ok (.dreturn, 1) := by decide +kernel
theorem dX8_nearest_6 : decode cX8_nearest 6 = .ok (.iload_n 3, 1) := by decide +kernel
theorem dX8_nearest_7 : decode cX8_nearest 7 = .ok (.aload_n 0, 1) := by decide +kernel
theorem dX8_nearest_8 : decode cX8_nearest 8 = .ok (.getfield 29, 3) := by decide +kernel
theorem dX8_nearest_11 : decode cX8_nearest 11 = .ok (.if_icmp .ge 28, 3) := by decide +kernel
theorem dX8_nearest_14 : decode cX8_nearest 14 = .ok (.aload_n 0, 1) := by decide +kernel
theorem dX8_nearest_15 : decode cX8_nearest 15 = .ok (.getfield 15, 3) := by decide +kernel
theorem dX8_nearest_18 : decode cX8_nearest 18 = .ok (.iload_n 3, 1) := by decide +kernel
theorem dX8_nearest_19 : decode cX8_nearest 19 = .ok (.daload, 1) := by decide +kernel
theorem dX8_nearest_20 : decode cX8_nearest 20 = .ok (.dconst 0, 1) := by decide +kernel
theorem dX8_nearest_21 : decode cX8_nearest 21 = .ok (.dcmp .l, 1) := by decide +kernel
theorem dX8_nearest_22 : decode cX8_nearest 22 = .ok (.ifCond .lt 10, 3) := by decide +kernel
theorem dX8_nearest_32 : decode cX8_nearest 32 = .ok (.iload_n 3, 1) := by decide +kernel
theorem dX8_nearest_33 : decode cX8_nearest 33 = .ok (.iload_n 2, 1) := by decide +kernel
theorem dX8_nearest_34 : decode cX8_nearest 34 = .ok (.iadd, 1) := by decide +kernel
theorem dX8_nearest_35 : decode cX8_nearest 35 = .ok (.istore_n 3, 1) := by decide +kernel
theorem dX8_nearest_36 : decode cX8_nearest 36 = .ok (.goto (-34), 3) := by decide +kernel
theorem dX8_nearest_25 : decode cX8_nearest 25 = .ok (.aload_n 0, 1) := by decide +kernel
theorem dX8_nearest_26 : decode cX8_nearest 26 = .ok (.getfield 15, 3) := by decide +kernel
theorem dX8_nearest_29 : decode cX8_nearest 29 = .ok (.iload_n 3, 1) := by decide +kernel
theorem dX8_nearest_30 : decode cX8_nearest 30 = .ok (.daload, 1) := by decide +kernel
theorem dX8_nearest_31 : decode cX8_nearest 31 = .ok (.dreturn, 1) := by decide +kernel
theorem dX8_numberOf_0 : decode cX8_numberOf 0 = .ok (.aload_n 0, 1) := by decide +kernel
theorem dX8_numberOf_1 : decode cX8_numberOf 1 = .ok (.iload_n 1, 1) := by decide +kernel
theorem dX8_numberOf_2 : decode cX8_numberOf 2 = .ok (.iconst (-1), 1) := by decide +kernel
theorem dX8_numberOf_3 : decode cX8_numberOf 3 = .ok (.invokevirtual 36, 3) := by decide +kernel
theorem dX8_numberOf_6 : decode cX8_numberOf 6 = .ok (.dstore_n 2, 1) := by decide +kernel
theorem dX8_numberOf_7 : decode cX8_numberOf 7 = .ok (.aload_n 0, 1) := by decide +kernel
theorem dX8_numberOf_8 : decode cX8_numberOf 8 = .ok (.iload_n 1, 1) := by decide +kernel
theorem dX8_numberOf_9 : decode cX8_numberOf 9 = .ok (.iconst 1, 1) := by decide +kernel
theorem dX8_numberOf_10 : decode cX8_numberOf 10 = .ok (.invokevirtual 36, 3) := by decide +kernel
theorem dX8_numberOf_13 : decode cX8_numberOf 13 = .ok (.dstore 4, 2) := by decide +kernel
theorem dX8_numberOf_15 : decode cX8_numberOf 15 = .ok (.dload_n 2, 1) := by decide +kernel
theorem dX8_numberOf_16 : decode cX8_numberOf 16 = .ok (.dconst 0, 1) := by decide +kernel
theorem dX8_numberOf_17 : decode cX8_numberOf 17 = .ok (.dcmp .g, 1) := by decide +kernel
theorem dX8_numberOf_18 : decode cX8_numberOf 18 = .ok (.ifCond .ge 17, 3) := by decide +kernel
theorem dX8_numberOf_35 : decode cX8_numberOf 35 = .ok (.dload 4, 2) := by decide +kernel
theorem dX8_numberOf_37 : decode cX8_numberOf 37 = .ok (.dconst 0, 1) := by decide +kernel
theorem dX8_numberOf_38 : decode cX8_numberOf 38 = .ok (.dcmp .g, 1) := by decide +kernel
theorem dX8_numberOf_39 : decode cX8_numberOf 39 = .ok (.ifCond .ge 7, 3) := by decide +kernel
theorem dX8_numberOf_54 : decode cX8_numberOf 54 = .ok (.dreturn, 1) := by decide +kernel
theorem dX8_numberOf_46 : decode cX8_numberOf 46 = .ok (.dload_n 2, 1) := by decide +kernel
theorem dX8_numberOf_47 : decode cX8_numberOf 47 = .ok (.dload 4, 2) := by decide +kernel
theorem dX8_numberOf_49 : decode cX8_numberOf 49 = .ok (.dadd, 1) := by decide +kernel
theorem dX8_numberOf_50 : decode cX8_numberOf 50 = .ok (.ldc2_w 40, 3) := by decide +kernel
theorem dX8_numberOf_53 : decode cX8_numberOf 53 = .ok (.ddiv, 1) := by decide +kernel
theorem dX8_numberOf_42 : decode cX8_numberOf 42 = .ok (.dload_n 2, 1) := by decide +kernel
theorem dX8_numberOf_43 : decode cX8_numberOf 43 = .ok (.goto 11, 3) := by decide +kernel
theorem dX8_numberOf_21 : decode cX8_numberOf 21 = .ok (.dload 4, 2) := by decide +kernel
theorem dX8_numberOf_23 : decode cX8_numberOf 23 = .ok (.dconst 0, 1) := by decide +kernel
theorem dX8_numberOf_24 : decode cX8_numberOf 24 = .ok (.dcmp .g, 1) := by decide +kernel
theorem dX8_numberOf_25 : decode cX8_numberOf 25 = .ok (.ifCond .ge 7, 3) := by decide +kernel
theorem dX8_numberOf_34 : decode cX8_numberOf 34 = .ok (.dreturn, 1) := by decide +kernel
theorem dX8_numberOf_32 : decode cX8_numberOf 32 = .ok (.dload 4, 2) := by decide +kernel
theorem dX8_numberOf_28 : decode cX8_numberOf 28 = .ok (.dconst 0, 1) := by decide +kernel
theorem dX8_numberOf_29 : decode cX8_numberOf 29 = .ok (.goto 5, 3) := by decide +kernel
theorem dX5_readClause_0 : decode cX5_readClause 0 = .ok (.aload_n 0, 1) := by decide +kernel
theorem dX5_readClause_1 : decode cX5_readClause 1 = .ok (.getfield 50, 3) := by decide +kernel
theorem dX5_readClause_4 : decode cX5_readClause 4 = .ok (.bipush 12, 2) := by decide +kernel
theorem dX5_readClause_6 : decode cX5_readClause 6 = .ok (.if_icmp .lt 8, 3) := by decide +kernel
theorem dX5_readClause_14 : decode cX5_readClause 14 = .ok (.aload_n 0, 1) := by decide +kernel
theorem dX5_readClause_15 : decode cX5_readClause 15 = .ok (.getfield 50, 3) := by decide +kernel
theorem dX5_readClause_18 : decode cX5_readClause 18 = .ok (.istore_n 1, 1) := by decide +kernel
theorem dX5_readClause_19 : decode cX5_readClause 19 = .ok (.aload_n 0, 1) := by decide +kernel
theorem dX5_readClause_20 : decode cX5_readClause 20 = .ok (.getfield 37, 3) := by decide +kernel
theorem dX5_readClause_23 : decode cX5_readClause 23 = .ok (.aload_n 0, 1) := by decide +kernel
theorem dX5_readClause_24 : decode cX5_readClause 24 = .ok (.getfield 60, 3) := by decide +kernel
theorem dX5_readClause_27 : decode cX5_readClause 27 = .ok (.iaload, 1) := by decide +kernel
theorem dX5_readClause_28 : decode cX5_readClause 28 = .ok (.istore_n 2, 1) := by decide +kernel
theorem dX5_readClause_29 : decode cX5_readClause 29 = .ok (.iconst 0, 1) := by decide +kernel
theorem dX5_readClause_30 : decode cX5_readClause 30 = .ok (.istore_n 3, 1) := by decide +kernel
theorem dX5_readClause_31 : decode cX5_readClause 31 = .ok (.aload_n 0, 1) := by decide +kernel
theorem dX5_readClause_32 : decode cX5_readClause 32 = .ok (.dup, 1) := by decide +kernel
theorem dX5_readClause_33 : decode cX5_readClause 33 = .ok (.getfield 50, 3) := by decide +kernel
theorem dX5_readClause_36 : decode cX5_readClause 36 = .ok (.iconst 1, 1) := by decide +kernel
theorem dX5_readClause_37 : decode cX5_readClause 37 = .ok (.iadd, 1) := by decide +kernel
theorem dX5_readClause_38 : decode cX5_readClause 38 = .ok (.putfield 50, 3) := by decide +kernel
theorem dX5_readClause_41 : decode cX5_readClause 41 = .ok (.aload_n 0, 1) := by decide +kernel
theorem dX5_readClause_42 : decode cX5_readClause 42 = .ok (.getfield 15, 3) := by decide +kernel
theorem dX5_readClause_45 : decode cX5_readClause 45 = .ok (.iload_n 1, 1) := by decide +kernel
theorem dX5_readClause_46 : decode cX5_readClause 46 = .ok (.iload_n 2, 1) := by decide +kernel
theorem dX5_readClause_47 : decode cX5_readClause 47 = .ok (.iastore, 1) := by decide +kernel
theorem dX5_readClause_48 : decode cX5_readClause 48 = .ok (.aload_n 0, 1) := by decide +kernel
theorem dX5_readClause_49 : decode cX5_readClause 49 = .ok (.getfield 19, 3) := by decide +kernel
theorem dX5_readClause_52 : decode cX5_readClause 52 = .ok (.iload_n 1, 1) := by decide +kernel
theorem dX5_readClause_53 : decode cX5_readClause 53 = .ok (.iconst 0, 1) := by decide +kernel
theorem dX5_readClause_54 : decode cX5_readClause 54 = .ok (.iastore, 1) := by decide +kernel
theorem dX5_readClause_55 : decode cX5_readClause 55 = .ok (.aload_n 0, 1) := by decide +kernel
theorem dX5_readClause_56 : decode cX5_readClause 56 = .ok (.getfield 22, 3) := by decide +kernel
theorem dX5_readClause_59 : decode cX5_readClause 59 = .ok (.iload_n 1, 1) := by decide +kernel
theorem dX5_readClause_60 : decode cX5_readClause 60 = .ok (.iconst 0, 1) := by decide +kernel
theorem dX5_readClause_61 : decode cX5_readClause 61 = .ok (.iastore, 1) := by decide +kernel
theorem dX5_readClause_62 : decode cX5_readClause 62 = .ok (.aload_n 0, 1) := by decide +kernel
theorem dX5_readClause_63 : decode cX5_readClause 63 = .ok (.getfield 25, 3) := by decide +kernel
theorem dX5_readClause_66 : decode cX5_readClause 66 = .ok (.iload_n 1, 1) := by decide +kernel
theorem dX5_readClause_67 : decode cX5_readClause 67 = .ok (.aload_n 0, 1) := by decide +kernel
theorem dX5_readClause_68 : decode cX5_readClause 68 = .ok (.getfield 57, 3) := by decide +kernel
theorem dX5_readClause_71 : decode cX5_readClause 71 = .ok (.iastore, 1) := by decide +kernel
theorem dX5_readClause_72 : decode cX5_readClause 72 = .ok (.iload_n 2, 1) := by decide +kernel
theorem dX5_readClause_73 : decode cX5_readClause 73 = .ok (.sipush 256, 3) := by decide +kernel
theorem dX5_readClause_76 : decode cX5_readClause 76 = .ok (.if_icmp .ne 49, 3) := by decide +kernel
theorem dX5_readClause_125 : decode cX5_readClause 125 = .ok (.iload_n 2, 1) := by decide +kernel
theorem dX5_readClause_126 : decode cX5_readClause 126 = .ok (.sipush 258, 3) := by decide +kernel
theorem dX5_readClause_129 : decode cX5_readClause 129 = .ok (.if_icmp .ne 41, 3) := by decide +kernel
theorem dX5_readClause_170 : decode cX5_readClause 170 = .ok (.iload_n 2, 1) := by decide +kernel
theorem dX5_readClause_171 : decode cX5_readClause 171 = .ok (.sipush 260, 3) := by decide +kernel
theorem dX5_readClause_174 : decode cX5_readClause 174 = .ok (.if_icmp .eq 10, 3) := by decide +kernel
theorem dX5_readClause_184 : decode cX5_readClause 184 = .ok (.aload_n 0, 1) := by decide +kernel
theorem dX5_readClause_185 : decode cX5_readClause 185 = .ok (.dup, 1) := by decide +kernel
theorem dX5_readClause_186 : decode cX5_readClause 186 = .ok (.getfield 60, 3) := by decide +kernel
theorem dX5_readClause_189 : decode cX5_readClause 189 = .ok (.iconst 1, 1) := by decide +kernel
theorem dX5_readClause_190 : decode cX5_readClause 190 = .ok (.iadd, 1) := by decide +kernel
theorem dX5_readClause_191 : decode cX5_readClause 191 = .ok (.putfield 60, 3) := by decide +kernel
theorem dX5_readClause_194 : decode cX5_readClause 194 = .ok (.aload_n 0, 1) := by decide +kernel
theorem dX5_readClause_195 : decode cX5_readClause 195 = .ok (.iconst 0, 1) := by decide +kernel
theorem dX5_readClause_196 : decode cX5_readClause 196 = .ok (.invokevirtual 131, 3) := by decide +kernel
theorem dX5_readClause_199 : decode cX5_readClause 199 = .ok (.iconst 1, 1) := by decide +kernel
theorem dX5_readClause_200 : decode cX5_readClause 200 = .ok (.istore_n 3, 1) := by decide +kernel
theorem dX5_readClause_201 : decode cX5_readClause 201 = .ok (.goto 51, 3) := by decide +kernel
theorem dX5_readClause_252 : decode cX5_readClause 252 = .ok (.iload_n 3, 1) := by decide +kernel
theorem dX5_readClause_253 : decode cX5_readClause 253 = .ok (.ifCond .eq 49, 3) := by decide +kernel
theorem dX5_readClause_256 : decode cX5_readClause 256 = .ok (.aload_n 0, 1) := by decide +kernel
theorem dX5_readClause_257 : decode cX5_readClause 257 = .ok (.getfield 9, 3) := by decide +kernel
theorem dX5_readClause_260 : decode cX5_readClause 260 = .ok (.iconst (-1), 1) := by decide +kernel
theorem dX5_readClause_261 : decode cX5_readClause 261 = .ok (.if_icmp .ne 41, 3) := by decide +kernel
theorem dX5_readClause_302 : decode cX5_readClause 302 = .ok (.aload_n 0, 1) := by decide +kernel
theorem dX5_readClause_303 : decode cX5_readClause 303 = .ok (.getfield 28, 3) := by decide +kernel
theorem dX5_readClause_306 : decode cX5_readClause 306 = .ok (.iload_n 1, 1) := by decide +kernel
theorem dX5_readClause_307 : decode cX5_readClause 307 = .ok (.aload_n 0, 1) := by decide +kernel
theorem dX5_readClause_308 : decode cX5_readClause 308 = .ok (.getfield 57, 3) := by decide +kernel
theorem dX5_readClause_311 : decode cX5_readClause 311 = .ok (.iastore, 1) := by decide +kernel
theorem dX5_readClause_312 : decode cX5_readClause 312 = .ok (.return_, 1) := by decide +kernel
theorem dX5_readClause_264 : decode cX5_readClause 264 = .ok (.aload_n 0, 1) := by decide +kernel
theorem dX5_readClause_265 : decode cX5_readClause 265 = .ok (.getfield 37, 3) := by decide +kernel
theorem dX5_readClause_268 : decode cX5_readClause 268 = .ok (.aload_n 0, 1) := by decide +kernel
theorem dX5_readClause_269 : decode cX5_readClause 269 = .ok (.getfield 60, 3) := by decide +kernel
theorem dX5_readClause_272 : decode cX5_readClause 272 = .ok (.iaload, 1) := by decide +kernel
theorem dX5_readClause_273 : decode cX5_readClause 273 = .ok (.sipush 259, 3) := by decide +kernel
theorem dX5_readClause_276 : decode cX5_readClause 276 = .ok (.if_icmp .ne 26, 3) := by decide +kernel
theorem dX5_readClause_279 : decode cX5_readClause 279 = .ok (.aload_n 0, 1) := by decide +kernel
theorem dX5_readClause_280 : decode cX5_readClause 280 = .ok (.dup, 1) := by decide +kernel
theorem dX5_readClause_281 : decode cX5_readClause 281 = .ok (.getfield 60, 3) := by decide +kernel
theorem dX5_readClause_284 : decode cX5_readClause 284 = .ok (.iconst 1, 1) := by decide +kernel
theorem dX5_readClause_285 : decode cX5_readClause 285 = .ok (.iadd, 1) := by decide +kernel
theorem dX5_readClause_286 : decode cX5_readClause 286 = .ok (.putfield 60, 3) := by decide +kernel
theorem dX5_readClause_289 : decode cX5_readClause 289 = .ok (.aload_n 0, 1) := by decide +kernel
theorem dX5_readClause_290 : decode cX5_readClause 290 = .ok (.iconst 0, 1) := by decide +kernel
theorem dX5_readClause_291 : decode cX5_readClause 291 = .ok (.invokevirtual 138, 3) := by decide +kernel
theorem dX5_readClause_294 : decode cX5_readClause 294 = .ok (.aload_n 0, 1) := by decide +kernel
theorem dX5_readClause_295 : decode cX5_readClause 295 = .ok (.sipush 259, 3) := by decide +kernel
theorem dX5_readClause_298 : decode cX5_readClause 298 = .ok (.iconst 0, 1) := by decide +kernel
theorem dX5_readClause_299 : decode cX5_readClause 299 = .ok (.invokevirtual 134, 3) := by decide +kernel
theorem dX5_readClause_177 : decode cX5_readClause 177 = .ok (.iload_n 2, 1) := by decide +kernel
theorem dX5_readClause_178 : decode cX5_readClause 178 = .ok (.sipush 261, 3) := by decide +kernel
theorem dX5_readClause_181 : decode cX5_readClause 181 = .ok (.if_icmp .ne 23, 3) := by decide +kernel
theorem dX5_readClause_204 : decode cX5_readClause 204 = .ok (.iload_n 2, 1) := by decide +kernel
theorem dX5_readClause_205 : decode cX5_readClause 205 = .ok (.sipush 262, 3) := by decide +kernel
theorem dX5_readClause_208 : decode cX5_readClause 208 = .ok (.if_icmp .eq 17, 3) := by decide +kernel
theorem dX5_readClause_225 : decode cX5_readClause 225 = .ok (.aload_n 0, 1) := by decide +kernel
theorem dX5_readClause_226 : decode cX5_readClause 226 = .ok (.dup, 1) := by decide +kernel
theorem dX5_readClause_227 : decode cX5_readClause 227 = .ok (.getfield 60, 3) := by decide +kernel
theorem dX5_readClause_230 : decode cX5_readClause 230 = .ok (.iconst 1, 1) := by decide +kernel
theorem dX5_readClause_231 : decode cX5_readClause 231 = .ok (.iadd, 1) := by decide +kernel
theorem dX5_readClause_232 : decode cX5_readClause 232 = .ok (.putfield 60, 3) := by decide +kernel
theorem dX5_readClause_235 : decode cX5_readClause 235 = .ok (.aload_n 0, 1) := by decide +kernel
theorem dX5_readClause_236 : decode cX5_readClause 236 = .ok (.sipush 301, 3) := by decide +kernel
theorem dX5_readClause_239 : decode cX5_readClause 239 = .ok (.iconst 0, 1) := by decide +kernel
theorem dX5_readClause_240 : decode cX5_readClause 240 = .ok (.invokevirtual 134, 3) := by decide +kernel
theorem dX5_readClause_243 : decode cX5_readClause 243 = .ok (.iconst 1, 1) := by decide +kernel
theorem dX5_readClause_244 : decode cX5_readClause 244 = .ok (.istore_n 3, 1) := by decide +kernel
theorem dX5_readClause_245 : decode cX5_readClause 245 = .ok (.goto 7, 3) := by decide +kernel
theorem dX5_readClause_211 : decode cX5_readClause 211 = .ok (.iload_n 2, 1) := by decide +kernel
theorem dX5_readClause_212 : decode cX5_readClause 212 = .ok (.sipush 263, 3) := by decide +kernel
theorem dX5_readClause_215 : decode cX5_readClause 215 = .ok (.if_icmp .eq 10, 3) := by decide +kernel
theorem dX5_readClause_218 : decode cX5_readClause 218 = .ok (.iload_n 2, 1) := by decide +kernel
theorem dX5_readClause_219 : decode cX5_readClause 219 = .ok (.sipush 264, 3) := by decide +kernel
theorem dX5_readClause_222 : decode cX5_readClause 222 = .ok (.if_icmp .ne 26, 3) := by decide +kernel
theorem dX5_readClause_248 : decode cX5_readClause 248 = .ok (.aload_n 0, 1) := by decide +kernel
theorem dX5_readClause_249 : decode cX5_readClause 249 = .ok (.invokevirtual 72, 3) := by decide +kernel
theorem dX5_readClause_132 : decode cX5_readClause 132 = .ok (.aload_n 0, 1) := by decide +kernel
theorem dX5_readClause_133 : decode cX5_readClause 133 = .ok (.dup, 1) := by decide +kernel
theorem dX5_readClause_134 : decode cX5_readClause 134 = .ok (.getfield 60, 3) := by decide +kernel
theorem dX5_readClause_137 : decode cX5_readClause 137 = .ok (.iconst 1, 1) := by decide +kernel
theorem dX5_readClause_138 : decode cX5_readClause 138 = .ok (.iadd, 1) := by decide +kernel
theorem dX5_readClause_139 : decode cX5_readClause 139 = .ok (.putfield 60, 3) := by decide +kernel
theorem dX5_readClause_142 : decode cX5_readClause 142 = .ok (.aload_n 0, 1) := by decide +kernel
theorem dX5_readClause_143 : decode cX5_readClause 143 = .ok (.getfield 19, 3) := by decide +kernel
theorem dX5_readClause_146 : decode cX5_readClause 146 = .ok (.iload_n 1, 1) := by decide +kernel
theorem dX5_readClause_147 : decode cX5_readClause 147 = .ok (.aload_n 0, 1) := by decide +kernel
theorem dX5_readClause_148 : decode cX5_readClause 148 = .ok (.iconst 0, 1) := by decide +kernel
theorem dX5_readClause_149 : decode cX5_readClause 149 = .ok (.iconst 3, 1) := by decide +kernel
theorem dX5_readClause_150 : decode cX5_readClause 150 = .ok (.invokevirtual 124, 3) := by decide +kernel
theorem dX5_readClause_153 : decode cX5_readClause 153 = .ok (.iastore, 1) := by decide +kernel
theorem dX5_readClause_154 : decode cX5_readClause 154 = .ok (.aload_n 0, 1) := by decide +kernel
theorem dX5_readClause_155 : decode cX5_readClause 155 = .ok (.getfield 22, 3) := by decide +kernel
theorem dX5_readClause_158 : decode cX5_readClause 158 = .ok (.iload_n 1, 1) := by decide +kernel
theorem dX5_readClause_159 : decode cX5_readClause 159 = .ok (.aload_n 0, 1) := by decide +kernel
theorem dX5_readClause_160 : decode cX5_readClause 160 = .ok (.iconst 1, 1) := by decide +kernel
theorem dX5_readClause_161 : decode cX5_readClause 161 = .ok (.bipush 52, 2) := by decide +kernel
theorem dX5_readClause_163 : decode cX5_readClause 163 = .ok (.invokevirtual 124, 3) := by decide +kernel
theorem dX5_readClause_166 : decode cX5_readClause 166 = .ok (.iastore, 1) := by decide +kernel
theorem dX5_readClause_167 : decode cX5_readClause 167 = .ok (.goto 85, 3) := by decide +kernel
theorem dX5_readClause_79 : decode cX5_readClause 79 = .ok (.aload_n 0, 1) := by decide +kernel
theorem dX5_readClause_80 : decode cX5_readClause 80 = .ok (.dup, 1) := by decide +kernel
theorem dX5_readClause_81 : decode cX5_readClause 81 = .ok (.getfield 60, 3) := by decide +kernel
theorem dX5_readClause_84 : decode cX5_readClause 84 = .ok (.iconst 1, 1) := by decide +kernel
theorem dX5_readClause_85 : decode cX5_readClause 85 = .ok (.iadd, 1) := by decide +kernel
theorem dX5_readClause_86 : decode cX5_readClause 86 = .ok (.putfield 60, 3) := by decide +kernel
theorem dX5_readClause_89 : decode cX5_readClause 89 = .ok (.aload_n 0, 1) := by decide +kernel
theorem dX5_readClause_90 : decode cX5_readClause 90 = .ok (.getfield 19, 3) := by decide +kernel
theorem dX5_readClause_93 : decode cX5_readClause 93 = .ok (.iload_n 1, 1) := by decide +kernel
theorem dX5_readClause_94 : decode cX5_readClause 94 = .ok (.aload_n 0, 1) := by decide +kernel
theorem dX5_readClause_95 : decode cX5_readClause 95 = .ok (.iconst 0, 1) := by decide +kernel
theorem dX5_readClause_96 : decode cX5_readClause 96 = .ok (.bipush 19, 2) := by decide +kernel
theorem dX5_readClause_98 : decode cX5_readClause 98 = .ok (.invokevirtual 124, 3) := by decide +kernel
theorem dX5_readClause_101 : decode cX5_readClause 101 = .ok (.iastore, 1) := by decide +kernel
theorem dX5_readClause_102 : decode cX5_readClause 102 = .ok (.aload_n 0, 1) := by decide +kernel
theorem dX5_readClause_103 : decode cX5_readClause 103 = .ok (.sipush 257, 3) := by decide +kernel
theorem dX5_readClause_106 : decode cX5_readClause 106 = .ok (.invokevirtual 127, 3) := by decide +kernel
theorem dX5_readClause_109 : decode cX5_readClause 109 = .ok (.aload_n 0, 1) := by decide +kernel
theorem dX5_readClause_110 : decode cX5_readClause 110 = .ok (.getfield 22, 3) := by decide +kernel
theorem dX5_readClause_113 : decode cX5_readClause 113 = .ok (.iload_n 1, 1) := by decide +kernel
theorem dX5_readClause_114 : decode cX5_readClause 114 = .ok (.aload_n 0, 1) := by decide +kernel
theorem dX5_readClause_115 : decode cX5_readClause 115 = .ok (.iconst 0, 1) := by decide +kernel
theorem dX5_readClause_116 : decode cX5_readClause 116 = .ok (.bipush 11, 2) := by decide +kernel
theorem dX5_readClause_118 : decode cX5_readClause 118 = .ok (.invokevirtual 124, 3) := by decide +kernel
theorem dX5_readClause_121 : decode cX5_readClause 121 = .ok (.iastore, 1) := by decide +kernel
theorem dX5_readClause_122 : decode cX5_readClause 122 = .ok (.goto 130, 3) := by decide +kernel
theorem dX5_readClause_9 : decode cX5_readClause 9 = .ok (.aload_n 0, 1) := by decide +kernel
theorem dX5_readClause_10 : decode cX5_readClause 10 = .ok (.invokevirtual 72, 3) := by decide +kernel
theorem dX5_readClause_13 : decode cX5_readClause 13 = .ok (.return_, 1) := by decide +kernel
theorem dX5_wordIn_0 : decode cX5_wordIn 0 = .ok (.sipush 256, 3) := by decide +kernel
theorem dX5_wordIn_3 : decode cX5_wordIn 3 = .ok (.istore_n 3, 1) := by decide +kernel
theorem dX5_wordIn_4 : decode cX5_wordIn 4 = .ok (.iload_n 2, 1) := by decide +kernel
theorem dX5_wordIn_5 : decode cX5_wordIn 5 = .ok (.iload_n 1, 1) := by decide +kernel
theorem dX5_wordIn_6 : decode cX5_wordIn 6 = .ok (.isub, 1) := by decide +kernel
theorem dX5_wordIn_7 : decode cX5_wordIn 7 = .ok (.istore 4, 2) := by decide +kernel
theorem dX5_wordIn_9 : decode cX5_wordIn 9 = .ok (.iconst 0, 1) := by decide +kernel
theorem dX5_wordIn_10 : decode cX5_wordIn 10 = .ok (.istore 5, 2) := by decide +kernel
theorem dX5_wordIn_12 : decode cX5_wordIn 12 = .ok (.iconst 0, 1) := by decide +kernel
theorem dX5_wordIn_13 : decode cX5_wordIn 13 = .ok (.istore 6, 2) := by decide +kernel
theorem dX5_wordIn_15 : decode cX5_wordIn 15 = .ok (.iload 6, 2) := by decide +kernel
theorem dX5_wordIn_17 : decode cX5_wordIn 17 = .ok (.ldc 113, 2) := by decide +kernel
theorem dX5_wordIn_19 : decode cX5_wordIn 19 = .ok (.invokevirtual 115, 3) := by decide +kernel
theorem dJ0_length_8abf5_0 : decode cJ0_length_8abf5 0 = .ok (.aload_n 0, 1) := by decide +kernel
theorem dJ0_length_8abf5_1 : decode cJ0_length_8abf5 1 = .ok (.getfield 9, 3) := by decide +kernel
theorem dJ0_length_8abf5_4 : decode cJ0_length_8abf5 4 = .ok (.arraylength, 1) := by decide +kernel
theorem dJ0_length_8abf5_5 : decode cJ0_length_8abf5 5 = .ok (.aload_n 0, 1) := by decide +kernel
theorem dJ0_length_8abf5_6 : decode cJ0_length_8abf5 6 = .ok (.invokevirtual 335, 3) := by decide +kernel
theorem dJ0_coder_7d493_0 : decode cJ0_coder_7d493 0 = .ok (.getstatic 38, 3) := by decide +kernel
theorem dJ0_coder_7d493_3 : decode cJ0_coder_7d493 3 = .ok (.ifCond .eq 10, 3) := by decide +kernel
theorem dJ0_coder_7d493_6 : decode cJ0_coder_7d493 6 = .ok (.aload_n 0, 1) := by decide +kernel
theorem dJ0_coder_7d493_7 : decode cJ0_coder_7d493 7 = .ok (.getfield 15, 3) := by decide +kernel
theorem dJ0_coder_7d493_10 : decode cJ0_coder_7d493 10 = .ok (.goto 4, 3) := by decide +kernel
theorem dJ0_coder_7d493_14 : decode cJ0_coder_7d493 14 = .ok (.ireturn, 1) := by decide +kernel
theorem dJ0_length_8abf5_9 : decode cJ0_length_8abf5 9 = .ok (.ishr, 1) := by decide +kernel
theorem dJ0_length_8abf5_10 : decode cJ0_length_8abf5 10 = .ok (.ireturn, 1) := by decide +kernel
theorem dX5_wordIn_22 : decode cX5_wordIn 22 = .ok (.if_icmp .ge 91, 3) := by decide +kernel
theorem dX5_wordIn_113 : decode cX5_wordIn 113 = .ok (.sipush 300, 3) := by decide +kernel
theorem dX5_wordIn_116 : decode cX5_wordIn 116 = .ok (.ireturn, 1) := by decide +kernel
theorem dX5_wordIn_25 : decode cX5_wordIn 25 = .ok (.ldc 113, 2) := by decide +kernel
theorem dX5_wordIn_27 : decode cX5_wordIn 27 = .ok (.iload 6, 2) := by decide +kernel
theorem dX5_wordIn_29 : decode cX5_wordIn 29 = .ok (.invokevirtual 120, 3) := by decide +kernel
theorem dJ0_charAt_5068e_0 : decode cJ0_charAt_5068e 0 = .ok (.aload_n 0, 1) := by decide +kernel
theorem dJ0_charAt_5068e_1 : decode cJ0_charAt_5068e 1 = .ok (.invokevirtual 492, 3) := by decide +kernel
theorem dJ0_isLatin1_aae02_0 : decode cJ0_isLatin1_aae02 0 = .ok (.getstatic 38, 3) := by decide +kernel
theorem dJ0_isLatin1_aae02_3 : decode cJ0_isLatin1_aae02 3 = .ok (.ifCond .eq 14, 3) := by decide +kernel
theorem dJ0_isLatin1_aae02_6 : decode cJ0_isLatin1_aae02 6 = .ok (.aload_n 0, 1) := by decide +kernel
theorem dJ0_isLatin1_aae02_7 : decode cJ0_isLatin1_aae02 7 = .ok (.getfield 15, 3) := by decide +kernel
theorem dJ0_isLatin1_aae02_10 : decode cJ0_isLatin1_aae02 10 = .ok (.ifCond .ne 7, 3) := by decide +kernel
theorem dJ0_isLatin1_aae02_13 : decode cJ0_isLatin1_aae02 13 = .ok (.iconst 1, 1) := by decide +kernel
theorem dJ0_isLatin1_aae02_14 : decode cJ0_isLatin1_aae02 14 = .ok (.goto 4, 3) := by decide +kernel
theorem dJ0_isLatin1_aae02_18 : decode cJ0_isLatin1_aae02 18 = .ok (.ireturn, 1) := by decide +kernel
theorem dJ0_charAt_5068e_4 : decode cJ0_charAt_5068e 4 = .ok (.ifCond .eq 12, 3) := by decide +kernel
theorem dJ0_charAt_5068e_7 : decode cJ0_charAt_5068e 7 = .ok (.aload_n 0, 1) := by decide +kernel
theorem dJ0_charAt_5068e_8 : decode cJ0_charAt_5068e 8 = .ok (.getfield 9, 3) := by decide +kernel
theorem dJ0_charAt_5068e_11 : decode cJ0_charAt_5068e 11 = .ok (.iload_n 1, 1) := by decide +kernel
theorem dJ0_charAt_5068e_12 : decode cJ0_charAt_5068e 12 = .ok (.invokestatic 495, 3) := by decide +kernel
theorem dJ1_charAt_3b067_0 : decode cJ1_charAt_3b067 0 = .ok (.iload_n 1, 1) := by decide +kernel
theorem dJ1_charAt_3b067_1 : decode cJ1_charAt_3b067 1 = .ok (.aload_n 0, 1) := by decide +kernel
theorem dJ1_charAt_3b067_2 : decode cJ1_charAt_3b067 2 = .ok (.arraylength, 1) := by decide +kernel
theorem dJ1_charAt_3b067_3 : decode cJ1_charAt_3b067 3 = .ok (.invokestatic 9, 3) := by decide +kernel
theorem dJ0_checkIndex_df160_0 : decode cJ0_checkIndex_df160 0 = .ok (.iload_n 0, 1) := by decide +kernel
theorem dJ0_checkIndex_df160_1 : decode cJ0_checkIndex_df160 1 = .ok (.iload_n 1, 1) := by decide +kernel
theorem dJ0_checkIndex_df160_2 : decode cJ0_checkIndex_df160 2 = .ok (.getstatic 1053, 3) := by decide +kernel
theorem dJ0_checkIndex_df160_5 : decode cJ0_checkIndex_df160 5 = .ok (.invokestatic 1059, 3) := by decide +kernel
theorem dJ3_checkIndex_8e157_0 : decode cJ3_checkIndex_8e157 0 = .ok (.iload_n 0, 1) := by decide +kernel
theorem dJ3_checkIndex_8e157_1 : decode cJ3_checkIndex_8e157 1 = .ok (.ifCond .lt 8, 3) := by decide +kernel
theorem dJ3_checkIndex_8e157_9 : decode cJ3_checkIndex_8e157 9 = .ok (.aload_n 2, 1) := by decide +kernel
theorem dJ3_checkIndex_8e157_10 : decode cJ3_checkIndex_8e157 10 = .ok (.iload_n 0, 1) := by decide +kernel
theorem dJ3_checkIndex_8e157_11 : decode cJ3_checkIndex_8e157 11 = .ok (.iload_n 1, 1) := by decide +kernel
theorem dJ3_checkIndex_8e157_4 : decode cJ3_checkIndex_8e157 4 = .ok (.iload_n 0, 1) := by decide +kernel
theorem dJ3_checkIndex_8e157_5 : decode cJ3_checkIndex_8e157 5 = .ok (.iload_n 1, 1) := by decide +kernel
theorem dJ3_checkIndex_8e157_6 : decode cJ3_checkIndex_8e157 6 = .ok (.if_icmp .lt 10, 3) := by decide +kernel
theorem dJ3_checkIndex_8e157_16 : decode cJ3_checkIndex_8e157 16 = .ok (.iload_n 0, 1) := by decide +kernel
theorem dJ3_checkIndex_8e157_17 : decode cJ3_checkIndex_8e157 17 = .ok (.ireturn, 1) := by decide +kernel
theorem dJ0_checkIndex_df160_8 : decode cJ0_checkIndex_df160 8 = .ok (.pop, 1) := by decide +kernel
theorem dJ0_checkIndex_df160_9 : decode cJ0_checkIndex_df160 9 = .ok (.return_, 1) := by decide +kernel
theorem dJ1_charAt_3b067_6 : decode cJ1_charAt_3b067 6 = .ok (.aload_n 0, 1) := by decide +kernel
theorem dJ1_charAt_3b067_7 : decode cJ1_charAt_3b067 7 = .ok (.iload_n 1, 1) := by decide +kernel
theorem dJ1_charAt_3b067_8 : decode cJ1_charAt_3b067 8 = .ok (.baload, 1) := by decide +kernel
theorem dJ1_charAt_3b067_9 : decode cJ1_charAt_3b067 9 = .ok (.sipush 255, 3) := by decide +kernel
theorem dJ1_charAt_3b067_12 : decode cJ1_charAt_3b067 12 = .ok (.iand, 1) := by decide +kernel
theorem dJ1_charAt_3b067_13 : decode cJ1_charAt_3b067 13 = .ok (.i2c, 1) := by decide +kernel
theorem dJ1_charAt_3b067_14 : decode cJ1_charAt_3b067 14 = .ok (.ireturn, 1) := by decide +kernel
theorem dJ0_charAt_5068e_15 : decode cJ0_charAt_5068e 15 = .ok (.ireturn, 1) := by decide +kernel
theorem dX5_wordIn_32 : decode cX5_wordIn 32 = .ok (.istore 7, 2) := by decide +kernel
theorem dX5_wordIn_34 : decode cX5_wordIn 34 = .ok (.iload 7, 2) := by decide +kernel
theorem dX5_wordIn_36 : decode cX5_wordIn 36 = .ok (.bipush 32, 2) := by decide +kernel
theorem dX5_wordIn_38 : decode cX5_wordIn 38 = .ok (.if_icmp .eq 54, 3) := by decide +kernel
theorem dX5_wordIn_92 : decode cX5_wordIn 92 = .ok (.iload 5, 2) := by decide +kernel
theorem dX5_wordIn_94 : decode cX5_wordIn 94 = .ok (.iload 4, 2) := by decide +kernel
theorem dX5_wordIn_96 : decode cX5_wordIn 96 = .ok (.if_icmp .ne 5, 3) := by decide +kernel
theorem dX5_wordIn_101 : decode cX5_wordIn 101 = .ok (.iinc 3 1, 3) := by decide +kernel
theorem dX5_wordIn_104 : decode cX5_wordIn 104 = .ok (.iconst 0, 1) := by decide +kernel
theorem dX5_wordIn_105 : decode cX5_wordIn 105 = .ok (.istore 5, 2) := by decide +kernel
theorem dX5_wordIn_107 : decode cX5_wordIn 107 = .ok (.iinc 6 1, 3) := by decide +kernel
theorem dX5_wordIn_110 : decode cX5_wordIn 110 = .ok (.goto (-95), 3) := by decide +kernel
theorem dX5_wordIn_99 : decode cX5_wordIn 99 = .ok (.iload_n 3, 1) := by decide +kernel
theorem dX5_wordIn_100 : decode cX5_wordIn 100 = .ok (.ireturn, 1) := by decide +kernel
theorem dX5_wordIn_41 : decode cX5_wordIn 41 = .ok (.iload 5, 2) := by decide +kernel
theorem dX5_wordIn_43 : decode cX5_wordIn 43 = .ok (.ifCond .lt 28, 3) := by decide +kernel
theorem dX5_wordIn_72 : decode cX5_wordIn 72 = .ok (.istore 8, 2) := by decide +kernel
theorem dX5_wordIn_74 : decode cX5_wordIn 74 = .ok (.iload 8, 2) := by decide +kernel
theorem dX5_wordIn_76 : decode cX5_wordIn 76 = .ok (.ifCond .eq 10, 3) := by decide +kernel
theorem dX5_wordIn_87 : decode cX5_wordIn 87 = .ok (.istore 5, 2) := by decide +kernel
theorem dX5_wordIn_89 : decode cX5_wordIn 89 = .ok (.goto 18, 3) := by decide +kernel
theorem dX5_wordIn_86 : decode cX5_wordIn 86 = .ok (.iconst (-1), 1) := by decide +kernel
theorem dX5_wordIn_79 : decode cX5_wordIn 79 = .ok (.iload 5, 2) := by decide +kernel
theorem dX5_wordIn_81 : decode cX5_wordIn 81 = .ok (.iconst 1, 1) := by decide +kernel
theorem dX5_wordIn_82 : decode cX5_wordIn 82 = .ok (.iadd, 1) := by decide +kernel
theorem dX5_wordIn_83 : decode cX5_wordIn 83 = .ok (.goto 4, 3) := by decide +kernel
theorem dX5_wordIn_71 : decode cX5_wordIn 71 = .ok (.iconst 0, 1) := by decide +kernel
theorem dX5_wordIn_46 : decode cX5_wordIn 46 = .ok (.iload 5, 2) := by decide +kernel
theorem dX5_wordIn_48 : decode cX5_wordIn 48 = .ok (.iload 4, 2) := by decide +kernel
theorem dX5_wordIn_50 : decode cX5_wordIn 50 = .ok (.if_icmp .ge 21, 3) := by decide +kernel
theorem dX5_wordIn_53 : decode cX5_wordIn 53 = .ok (.aload_n 0, 1) := by decide +kernel
theorem dX5_wordIn_54 : decode cX5_wordIn 54 = .ok (.getfield 85, 3) := by decide +kernel
theorem dX5_wordIn_57 : decode cX5_wordIn 57 = .ok (.iload_n 1, 1) := by decide +kernel
theorem dX5_wordIn_58 : decode cX5_wordIn 58 = .ok (.iload 5, 2) := by decide +kernel
theorem dX5_wordIn_60 : decode cX5_wordIn 60 = .ok (.iadd, 1) := by decide +kernel
theorem dX5_wordIn_61 : decode cX5_wordIn 61 = .ok (.iaload, 1) := by decide +kernel
theorem dX5_wordIn_62 : decode cX5_wordIn 62 = .ok (.iload 7, 2) := by decide +kernel
theorem dX5_wordIn_64 : decode cX5_wordIn 64 = .ok (.if_icmp .ne 7, 3) := by decide +kernel
theorem dX5_wordIn_67 : decode cX5_wordIn 67 = .ok (.iconst 1, 1) := by decide +kernel
theorem dX5_wordIn_68 : decode cX5_wordIn 68 = .ok (.goto 4, 3) := by decide +kernel
theorem dX5_split_0 : decode cX5_split 0 = .ok (.aload_n 0, 1) := by decide +kernel
theorem dX5_split_1 : decode cX5_split 1 = .ok (.iconst 0, 1) := by decide +kernel
theorem dX5_split_2 : decode cX5_split 2 = .ok (.putfield 69, 3) := by decide +kernel
theorem dX5_split_5 : decode cX5_split 5 = .ok (.iconst 0, 1) := by decide +kernel
theorem dX5_split_6 : decode cX5_split 6 = .ok (.istore_n 2, 1) := by decide +kernel
theorem dX5_split_7 : decode cX5_split 7 = .ok (.iconst 0, 1) := by decide +kernel
theorem dX5_split_8 : decode cX5_split 8 = .ok (.istore_n 3, 1) := by decide +kernel
theorem dX5_split_9 : decode cX5_split 9 = .ok (.iload_n 3, 1) := by decide +kernel
theorem dX5_split_10 : decode cX5_split 10 = .ok (.aload_n 1, 1) := by decide +kernel
theorem dX5_split_11 : decode cX5_split 11 = .ok (.getfield 80, 3) := by decide +kernel
theorem dX5_split_14 : decode cX5_split 14 = .ok (.if_icmp .ge 140, 3) := by decide +kernel
theorem dX5_split_154 : decode cX5_split 154 = .ok (.aload_n 0, 1) := by decide +kernel
theorem dX5_split_155 : decode cX5_split 155 = .ok (.getfield 40, 3) := by decide +kernel
theorem dX5_split_158 : decode cX5_split 158 = .ok (.aload_n 0, 1) := by decide +kernel
theorem dX5_split_159 : decode cX5_split 159 = .ok (.getfield 69, 3) := by decide +kernel
theorem dX5_split_162 : decode cX5_split 162 = .ok (.aload_n 1, 1) := by decide +kernel
theorem dX5_split_163 : decode cX5_split 163 = .ok (.getfield 80, 3) := by decide +kernel
theorem dX5_split_166 : decode cX5_split 166 = .ok (.iastore, 1) := by decide +kernel
theorem dX5_split_167 : decode cX5_split 167 = .ok (.aload_n 0, 1) := by decide +kernel
theorem dX5_split_168 : decode cX5_split 168 = .ok (.getfield 37, 3) := by decide +kernel
theorem dX5_split_171 : decode cX5_split 171 = .ok (.aload_n 0, 1) := by decide +kernel
theorem dX5_split_172 : decode cX5_split 172 = .ok (.getfield 69, 3) := by decide +kernel
theorem dX5_split_175 : decode cX5_split 175 = .ok (.sipush 302, 3) := by decide +kernel
theorem dX5_split_178 : decode cX5_split 178 = .ok (.iastore, 1) := by decide +kernel
theorem dX5_split_179 : decode cX5_split 179 = .ok (.return_, 1) := by decide +kernel
theorem dX5_split_17 : decode cX5_split 17 = .ok (.aload_n 1, 1) := by decide +kernel
theorem dX5_split_18 : decode cX5_split 18 = .ok (.getfield 85, 3) := by decide +kernel
theorem dX5_split_21 : decode cX5_split 21 = .ok (.iload_n 3, 1) := by decide +kernel
theorem dX5_split_22 : decode cX5_split 22 = .ok (.iaload, 1) := by decide +kernel
theorem dX5_split_23 : decode cX5_split 23 = .ok (.istore 4, 2) := by decide +kernel
theorem dX5_split_25 : decode cX5_split 25 = .ok (.iload_n 3, 1) := by decide +kernel
theorem dX5_split_26 : decode cX5_split 26 = .ok (.iload_n 2, 1) := by decide +kernel
theorem dX5_split_27 : decode cX5_split 27 = .ok (.if_icmp .lt 121, 3) := by decide +kernel
theorem dX5_split_148 : decode cX5_split 148 = .ok (.iinc 3 1, 3) := by decide +kernel
theorem dX5_split_151 : decode cX5_split 151 = .ok (.goto (-142), 3) := by decide +kernel
theorem dX5_split_30 : decode cX5_split 30 = .ok (.iload 4, 2) := by decide +kernel
theorem dX5_split_32 : decode cX5_split 32 = .ok (.bipush 32, 2) := by decide +kernel
theorem dX5_split_34 : decode cX5_split 34 = .ok (.if_icmp .ne 6, 3) := by decide +kernel
theorem dX5_split_40 : decode cX5_split 40 = .ok (.aload_n 1, 1) := by decide +kernel
theorem dX5_split_41 : decode cX5_split 41 = .ok (.iload_n 3, 1) := by decide +kernel
theorem dX5_split_42 : decode cX5_split 42 = .ok (.invokestatic 88, 3) := by decide +kernel
theorem dX5_split_45 : decode cX5_split 45 = .ok (.istore_n 2, 1) := by decide +kernel
theorem dX5_split_46 : decode cX5_split 46 = .ok (.aload_n 0, 1) := by decide +kernel
theorem dX5_split_47 : decode cX5_split 47 = .ok (.getfield 40, 3) := by decide +kernel
theorem dX5_split_50 : decode cX5_split 50 = .ok (.aload_n 0, 1) := by decide +kernel
theorem dX5_split_51 : decode cX5_split 51 = .ok (.getfield 69, 3) := by decide +kernel
theorem dX5_split_54 : decode cX5_split 54 = .ok (.iload_n 3, 1) := by decide +kernel
theorem dX5_split_55 : decode cX5_split 55 = .ok (.iastore, 1) := by decide +kernel
theorem dX5_split_56 : decode cX5_split 56 = .ok (.aload_n 0, 1) := by decide +kernel
theorem dX5_split_57 : decode cX5_split 57 = .ok (.getfield 43, 3) := by decide +kernel
theorem dX5_split_60 : decode cX5_split 60 = .ok (.aload_n 0, 1) := by decide +kernel
theorem dX5_split_61 : decode cX5_split 61 = .ok (.getfield 69, 3) := by decide +kernel
theorem dX5_split_64 : decode cX5_split 64 = .ok (.iconst 0, 1) := by decide +kernel
theorem dX5_split_65 : decode cX5_split 65 = .ok (.iastore, 1) := by decide +kernel
theorem dX5_split_66 : decode cX5_split 66 = .ok (.aload_n 0, 1) := by decide +kernel
theorem dX5_split_67 : decode cX5_split 67 = .ok (.getfield 37, 3) := by decide +kernel
theorem dX5_split_70 : decode cX5_split 70 = .ok (.aload_n 0, 1) := by decide +kernel
theorem dX5_split_71 : decode cX5_split 71 = .ok (.getfield 69, 3) := by decide +kernel
theorem dX5_split_74 : decode cX5_split 74 = .ok (.iload 4, 2) := by decide +kernel
theorem dX5_split_76 : decode cX5_split 76 = .ok (.iastore, 1) := by decide +kernel
theorem dX5_split_77 : decode cX5_split 77 = .ok (.iload 4, 2) := by decide +kernel
theorem dX5_split_79 : decode cX5_split 79 = .ok (.invokestatic 92, 3) := by decide +kernel
theorem dX5_split_82 : decode cX5_split 82 = .ok (.ifCond .eq 33, 3) := by decide +kernel
theorem dX5_split_138 : decode cX5_split 138 = .ok (.aload_n 0, 1) := by decide +kernel
theorem dX5_split_139 : decode cX5_split 139 = .ok (.dup, 1) := by decide +kernel
theorem dX5_split_140 : decode cX5_split 140 = .ok (.getfield 69, 3) := by decide +kernel
theorem dX5_split_143 : decode cX5_split 143 = .ok (.iconst 1, 1) := by decide +kernel
theorem dX5_split_144 : decode cX5_split 144 = .ok (.iadd, 1) := by decide +kernel
theorem dX5_split_145 : decode cX5_split 145 = .ok (.putfield 69, 3) := by decide +kernel
theorem dX5_split_115 : decode cX5_split 115 = .ok (.iload 4, 2) := by decide +kernel
theorem dX5_split_117 : decode cX5_split 117 = .ok (.invokestatic 100, 3) := by decide +kernel
theorem dX5_split_120 : decode cX5_split 120 = .ok (.ifCond .eq 18, 3) := by decide +kernel
theorem dX5_split_123 : decode cX5_split 123 = .ok (.aload_n 0, 1) := by decide +kernel
theorem dX5_split_124 : decode cX5_split 124 = .ok (.getfield 37, 3) := by decide +kernel
theorem dX5_split_127 : decode cX5_split 127 = .ok (.aload_n 0, 1) := by decide +kernel
theorem dX5_split_128 : decode cX5_split 128 = .ok (.getfield 69, 3) := by decide +kernel
theorem dX5_split_131 : decode cX5_split 131 = .ok (.aload_n 1, 1) := by decide +kernel
theorem dX5_split_132 : decode cX5_split 132 = .ok (.iload_n 3, 1) := by decide +kernel
theorem dX5_split_133 : decode cX5_split 133 = .ok (.iload_n 2, 1) := by decide +kernel
theorem dX5_split_134 : decode cX5_split 134 = .ok (.invokestatic 103, 3) := by decide +kernel
theorem dX5_split_137 : decode cX5_split 137 = .ok (.iastore, 1) := by decide +kernel
theorem dX5_split_85 : decode cX5_split 85 = .ok (.aload_n 0, 1) := by decide +kernel
theorem dX5_split_86 : decode cX5_split 86 = .ok (.getfield 37, 3) := by decide +kernel
theorem dX5_split_89 : decode cX5_split 89 = .ok (.aload_n 0, 1) := by decide +kernel
theorem dX5_split_90 : decode cX5_split 90 = .ok (.getfield 69, 3) := by decide +kernel
theorem dX5_split_93 : decode cX5_split 93 = .ok (.sipush 301, 3) := by decide +kernel
theorem dX5_split_96 : decode cX5_split 96 = .ok (.iastore, 1) := by decide +kernel
theorem dX5_split_97 : decode cX5_split 97 = .ok (.aload_n 0, 1) := by decide +kernel
theorem dX5_split_98 : decode cX5_split 98 = .ok (.getfield 43, 3) := by decide +kernel
theorem dX5_split_101 : decode cX5_split 101 = .ok (.aload_n 0, 1) := by decide +kernel
theorem dX5_split_102 : decode cX5_split 102 = .ok (.getfield 69, 3) := by decide +kernel
theorem dX5_split_105 : decode cX5_split 105 = .ok (.aload_n 1, 1) := by decide +kernel
theorem dX5_split_106 : decode cX5_split 106 = .ok (.iload_n 3, 1) := by decide +kernel
theorem dX5_split_107 : decode cX5_split 107 = .ok (.iload_n 2, 1) := by decide +kernel
theorem dX5_split_108 : decode cX5_split 108 = .ok (.invokestatic 96, 3) := by decide +kernel
theorem dX5_split_111 : decode cX5_split 111 = .ok (.iastore, 1) := by decide +kernel
theorem dX5_split_112 : decode cX5_split 112 = .ok (.goto 26, 3) := by decide +kernel
theorem dX5_split_37 : decode cX5_split 37 = .ok (.goto 111, 3) := by decide +kernel
def ms_X5_isDigit : List (Nat × Nat) := []
def po_X5_isDigit (kp : Nat → Nat) (L : List Nat) (f0 : Nat → va_E) (u1 : Int32) : Option Value → (Nat → va_E) → Prop := fun v f => (∃ r : Int32, v = some (.int r) ∧ ((r.toInt = 1 ∧ 48 ≤ u1.toInt ∧ u1.toInt ≤ 57) ∨ r.toInt = 0)) ∧ FM kp L ms_X5_isDigit f0 f
set_option maxHeartbeats 4000000 in
set_option maxRecDepth 100000 in
theorem c_X5_isDigit (l : Launch) (G : va_G) (cI cJ cZ cD cR cT : ClassId) (kp : Nat → Nat) (L : List Nat) (f0 : Nat → va_E) (hTH : TH cI cJ cZ cD cR cT kp L f0) (sz : Nat) (u1 : Int32) : Met l yX5_isDigit (Cond.code yX5_isDigit cX5_isDigit 1 (some .boolean) :: wTab) ({ frames := 1, cells := 0, slots := 0, locals := 40 }) (va_Pc [.int u1] (PreW G (tys6 cI cJ cZ cD cR cT) (va_pl L f0) sz)) (QT (po_X5_isDigit kp L f0 u1) G cI cJ cZ cD cR cT (va_A (va_pl L f0) sz) kp L) 0 0 (va_A (va_pl L f0) sz) := by
  refine metT (by decide) (Nat.le_of_ble_eq_true rfl) hTH ?_
  intro p e s m below meth c A ls E hW hl
  obtain ⟨hx, hb, -, hml, hown, hts, -, -, -⟩ := id E
  have hF : FM kp L ms_X5_isDigit f0 f0 := FM.rf
  have hl : lv_has ls 1 [(0, .int u1)] := hl
  refine lv_iload_n hx hb dX5_isDigit_0 rfl (lv_at hl 0 rfl) ?_
  refine lv_bipush (v := 48) hx hb dX5_isDigit_1 (by decide) ?_
  refine q_icmp_lt (Y := 48) (tgt := 16) hx hb dX5_isDigit_3 (by decide) rfl rfl (fun c1 => ?_) (fun c1 => ?_)
  · refine lv_iconst (v := 0) hx hb dX5_isDigit_16 (by decide) ?_
    exact e_Z E hW rfl (by decide) ⟨⟨_, rfl, (by have hk : (0 : Int32).toInt = 0 := rfl; first | decide | omega)⟩, hF⟩ dX5_isDigit_17
  · refine lv_iload_n hx hb dX5_isDigit_6 rfl (lv_at hl 0 rfl) ?_
    refine lv_bipush (v := 57) hx hb dX5_isDigit_7 (by decide) ?_
    refine q_icmp_gt (Y := 57) (tgt := 16) hx hb dX5_isDigit_9 (by decide) rfl rfl (fun c2 => ?_) (fun c2 => ?_)
    · refine lv_iconst (v := 0) hx hb dX5_isDigit_16 (by decide) ?_
      exact e_Z E hW rfl (by decide) ⟨⟨_, rfl, (by have hk : (0 : Int32).toInt = 0 := rfl; first | decide | omega)⟩, hF⟩ dX5_isDigit_17
    · refine lv_iconst (v := 1) hx hb dX5_isDigit_12 (by decide) ?_
      refine lv_goto (tgt := 17) hx hb dX5_isDigit_13 (by decide) ?_
      exact e_Z E hW rfl (by decide) ⟨⟨_, rfl, (by have hk : (1 : Int32).toInt = 1 := rfl; first | decide | omega)⟩, hF⟩ dX5_isDigit_17
def ms_X5_isLetter : List (Nat × Nat) := []
def po_X5_isLetter (kp : Nat → Nat) (L : List Nat) (f0 : Nat → va_E) (u1 : Int32) : Option Value → (Nat → va_E) → Prop := fun v f => (∃ r : Int32, v = some (.int r) ∧ ((r.toInt = 1 ∧ 97 ≤ u1.toInt ∧ u1.toInt ≤ 122) ∨ r.toInt = 0)) ∧ FM kp L ms_X5_isLetter f0 f
set_option maxHeartbeats 4000000 in
set_option maxRecDepth 100000 in
theorem c_X5_isLetter (l : Launch) (G : va_G) (cI cJ cZ cD cR cT : ClassId) (kp : Nat → Nat) (L : List Nat) (f0 : Nat → va_E) (hTH : TH cI cJ cZ cD cR cT kp L f0) (sz : Nat) (u1 : Int32) : Met l yX5_isLetter (Cond.code yX5_isLetter cX5_isLetter 1 (some .boolean) :: wTab) ({ frames := 1, cells := 0, slots := 0, locals := 40 }) (va_Pc [.int u1] (PreW G (tys6 cI cJ cZ cD cR cT) (va_pl L f0) sz)) (QT (po_X5_isLetter kp L f0 u1) G cI cJ cZ cD cR cT (va_A (va_pl L f0) sz) kp L) 0 0 (va_A (va_pl L f0) sz) := by
  refine metT (by decide) (Nat.le_of_ble_eq_true rfl) hTH ?_
  intro p e s m below meth c A ls E hW hl
  obtain ⟨hx, hb, -, hml, hown, hts, -, -, -⟩ := id E
  have hF : FM kp L ms_X5_isLetter f0 f0 := FM.rf
  have hl : lv_has ls 1 [(0, .int u1)] := hl
  refine lv_iload_n hx hb dX5_isLetter_0 rfl (lv_at hl 0 rfl) ?_
  refine lv_bipush (v := 97) hx hb dX5_isLetter_1 (by decide) ?_
  refine q_icmp_lt (Y := 97) (tgt := 16) hx hb dX5_isLetter_3 (by decide) rfl rfl (fun c1 => ?_) (fun c1 => ?_)
  · refine lv_iconst (v := 0) hx hb dX5_isLetter_16 (by decide) ?_
    exact e_Z E hW rfl (by decide) ⟨⟨_, rfl, (by have hk : (0 : Int32).toInt = 0 := rfl; first | decide | omega)⟩, hF⟩ dX5_isLetter_17
  · refine lv_iload_n hx hb dX5_isLetter_6 rfl (lv_at hl 0 rfl) ?_
    refine lv_bipush (v := 122) hx hb dX5_isLetter_7 (by decide) ?_
    refine q_icmp_gt (Y := 122) (tgt := 16) hx hb dX5_isLetter_9 (by decide) rfl rfl (fun c2 => ?_) (fun c2 => ?_)
    · refine lv_iconst (v := 0) hx hb dX5_isLetter_16 (by decide) ?_
      exact e_Z E hW rfl (by decide) ⟨⟨_, rfl, (by have hk : (0 : Int32).toInt = 0 := rfl; first | decide | omega)⟩, hF⟩ dX5_isLetter_17
    · refine lv_iconst (v := 1) hx hb dX5_isLetter_12 (by decide) ?_
      refine lv_goto (tgt := 17) hx hb dX5_isLetter_13 (by decide) ?_
      exact e_Z E hW rfl (by decide) ⟨⟨_, rfl, (by have hk : (1 : Int32).toInt = 1 := rfl; first | decide | omega)⟩, hF⟩ dX5_isLetter_17
def ms_X5_endOfRun : List (Nat × Nat) := []
def po_X5_endOfRun (kp : Nat → Nat) (L : List Nat) (f0 : Nat → va_E) (u1 : Nat) (u2 : Int32) : Option Value → (Nat → va_E) → Prop := fun v f => (∃ r : Int32, v = some (.int r) ∧ ((1 : Int) ≤ r.toInt ∧ r.toInt ≤ 400)) ∧ FM kp L ms_X5_endOfRun f0 f
set_option maxHeartbeats 4000000 in
set_option maxRecDepth 100000 in
theorem c_X5_endOfRun (l : Launch) (G : va_G) (cI cJ cZ cD cR cT : ClassId) (kp : Nat → Nat) (L : List Nat) (f0 : Nat → va_E) (hTH : TH cI cJ cZ cD cR cT kp L f0) (sz : Nat) (u1 : Nat) (u2 : Int32) (ru1 : RK kp L u1 8) (pu2 : (0 : Int) ≤ u2.toInt ∧ u2.toInt ≤ 399) : Met l yX5_endOfRun (Cond.code yX5_endOfRun cX5_endOfRun 4 (some .int) :: wTab) ({ frames := 2, cells := 0, slots := 0, locals := 60 }) (va_Pc [.ref u1, .int u2] (PreW G (tys6 cI cJ cZ cD cR cT) (va_pl L f0) sz)) (QT (po_X5_endOfRun kp L f0 u1 u2) G cI cJ cZ cD cR cT (va_A (va_pl L f0) sz) kp L) 0 0 (va_A (va_pl L f0) sz) := by
  refine metT (by decide) (Nat.le_of_ble_eq_true rfl) hTH ?_
  intro p e s m below meth c A ls E hW hl
  obtain ⟨hx, hb, -, hml, hown, hts, -, -, -⟩ := id E
  have hF : FM kp L ms_X5_endOfRun f0 f0 := FM.rf
  have hl : lv_has ls 4 [(0, .ref u1), (1, .int u2)] := hl
  refine lv_aload_n hx hb dX5_endOfRun_0 rfl (lv_at hl 0 rfl) ?_
  refine fg_RX5_85 E hW ru1 dX5_endOfRun_1 (fun a1 m2 r3 => ?_)
  refine lv_iload_n hx hb dX5_endOfRun_4 rfl (lv_at hl 1 rfl) ?_
  refine gl_581 E hW r3 ⟨by omega, by omega⟩ dX5_endOfRun_5 (fun y4 m5 => ?_)
  refine lv_istore_n (lv' := [(2, .int y4), (0, .ref u1), (1, .int u2)]) hx hb dX5_endOfRun_6 rfl hl (by decide) rfl (fun ls hl => ?_)
  refine lv_iload_n hx hb dX5_endOfRun_7 rfl (lv_at hl 2 rfl) ?_
  refine lv_iconst (v := 1) hx hb dX5_endOfRun_8 (by decide) ?_
  refine q_iadd (Y := 1) hx hb dX5_endOfRun_9 rfl rfl (by omega) (fun x7 h8 => ?_)
  refine lv_istore_n (lv' := [(3, .int x7), (2, .int y4), (0, .ref u1), (1, .int u2)]) hx hb dX5_endOfRun_10 rfl hl (by decide) rfl (fun ls hl => ?_)
  have L171 : ∀ (n : Nat), ∀ (f167 : Nat → va_E) (y169 : Int32) (m168 : oR (f167 u1) 1 = a1) (b170 : (1 : Int) ≤ y169.toInt ∧ y169.toInt ≤ 400) (hm : (401 : Int) - y169.toInt ≤ n) (H : Heap) (locs : List Loc) (ls : Array Slot), WS G cI cJ cZ cD cR cT A kp L f167 s H locs → FM kp L ms_X5_endOfRun f0 f167 → lv_has ls 4 [(3, .int y169), (2, .int y4), (0, .ref u1), (1, .int u2)] → W p l e ({ frames := 2, cells := 0, slots := 0, locals := 60 }) s m ([.ref u1, .int u2] : List Value).toArray below meth c H locs 0 0 (MQ below (QT (po_X5_endOfRun kp L f0 u1 u2) G cI cJ cZ cD cR cT A kp L) ([.ref u1, .int u2] : List Value).toArray s 0 0 A) (F0 m 11 ls []) := by
    intro n
    induction n with
    | zero =>
      intro f167 y169 m168 b170 hm H locs ls hW hF hl
      have hz := i32_b y169
      exfalso; omega
    | succ n ih =>
      intro f167 y169 m168 b170 hm H locs ls hW hF hl
      have ih11 := ih
      refine lv_iload_n hx hb dX5_endOfRun_11 rfl (lv_at hl 0 rfl) ?_
      refine lv_aload_n hx hb dX5_endOfRun_12 rfl (lv_at hl 2 rfl) ?_
      refine fg_RX5_80 E hW ru1 dX5_endOfRun_13 (fun y172 m173 b174 => ?_)
      have J250 : ∀ (f247 : Nat → va_E) (m248 : oI (f247 u1) 0 = y172) (m249 : oR (f247 u1) 1 = a1) (H : Heap) (locs : List Loc) (ls : Array Slot), WS G cI cJ cZ cD cR cT A kp L f247 s H locs → FM kp L ms_X5_endOfRun f0 f247 → lv_has ls 4 [(3, .int y169), (2, .int y4), (0, .ref u1), (1, .int u2)] → W p l e ({ frames := 2, cells := 0, slots := 0, locals := 60 }) s m ([.ref u1, .int u2] : List Value).toArray below meth c H locs 0 0 (MQ below (QT (po_X5_endOfRun kp L f0 u1 u2) G cI cJ cZ cD cR cT A kp L) ([.ref u1, .int u2] : List Value).toArray s 0 0 A) (F0 m 63 ls []) := by
        intro f247 m248 m249 H locs ls hW hF hl
        refine lv_iload_n hx hb dX5_endOfRun_63 rfl (lv_at hl 0 rfl) ?_
        exact e_I E hW rfl ⟨⟨_, rfl, (by first | omega | trivial)⟩, hF⟩ dX5_endOfRun_64
      refine q_icmp_ge (tgt := 63) hx hb dX5_endOfRun_16 (by decide) rfl rfl (fun c251 => ?_) (fun c251 => ?_)
      · exact J250 f167 m173 m168 _ _ _ hW hF (lv_sub hl [0, 1, 2, 3] rfl)
      · refine lv_iload_n hx hb dX5_endOfRun_19 rfl (lv_at hl 1 rfl) ?_
        refine t_callS (As := [.int y4]) (rest := []) E hW (c_X5_isDigit l G cI cJ cZ cD cR cT kp L f167 hW.2.2.2 _ y4) wk_X5_isDigit tw_874 rfl ⟨Nat.le_of_ble_eq_true rfl, Nat.le_of_ble_eq_true rfl⟩ ⟨rfl, rfl⟩ hl.1 rfl (Nat.le_of_ble_eq_true rfl) dX5_endOfRun_20 ⟨Nat.le_of_ble_eq_true rfl, Nat.le_of_ble_eq_true rfl⟩ (fun v252 f253 H locs q254 hW => ?_)
        obtain ⟨⟨x256, rfl, p257⟩, g255⟩ := q254
        have hF := FM.tr hF g255 rfl
        refine q_if_eq (tgt := 38) hx hb dX5_endOfRun_23 (by decide) rfl (fun c258 => ?_) (fun c258 => ?_)
        · clear p257
          refine lv_iload_n hx hb dX5_endOfRun_38 rfl (lv_at hl 1 rfl) ?_
          refine t_callS (As := [.int y4]) (rest := []) E hW (c_X5_isLetter l G cI cJ cZ cD cR cT kp L f253 hW.2.2.2 _ y4) wk_X5_isLetter tw_877 rfl ⟨Nat.le_of_ble_eq_true rfl, Nat.le_of_ble_eq_true rfl⟩ ⟨rfl, rfl⟩ hl.1 rfl (Nat.le_of_ble_eq_true rfl) dX5_endOfRun_39 ⟨Nat.le_of_ble_eq_true rfl, Nat.le_of_ble_eq_true rfl⟩ (fun v259 f260 H locs q261 hW => ?_)
          obtain ⟨⟨x263, rfl, p264⟩, g262⟩ := q261
          have hF := FM.tr hF g262 rfl
          refine q_if_eq (tgt := 63) hx hb dX5_endOfRun_42 (by decide) rfl (fun c265 => ?_) (fun c265 => ?_)
          · clear p264
            exact J250 f260 ((fm_I g262 ru1 rfl).trans ((fm_I g255 ru1 rfl).trans m173)) ((fm_R g262 ru1 rfl).trans ((fm_R g255 ru1 rfl).trans m168)) _ _ _ hW hF (lv_sub hl [0, 1, 2, 3] rfl)
          · have q266 : 97 ≤ y4.toInt ∧ y4.toInt ≤ 122 := by omega
            clear p264
            refine lv_aload_n hx hb dX5_endOfRun_45 rfl (lv_at hl 2 rfl) ?_
            refine fg_RX5_85 E hW ru1 dX5_endOfRun_46 (fun a267 m268 r269 => ?_)
            obtain rfl : a1 = a267 := (((fm_R g262 ru1 rfl).trans ((fm_R g255 ru1 rfl).trans m168))).symm.trans m268
            refine lv_iload_n hx hb dX5_endOfRun_49 rfl (lv_at hl 0 rfl) ?_
            refine gl_581 E hW r3 ⟨by omega, by omega⟩ dX5_endOfRun_50 (fun y270 m271 => ?_)
            refine t_callS (As := [.int y270]) (rest := []) E hW (c_X5_isLetter l G cI cJ cZ cD cR cT kp L f260 hW.2.2.2 _ y270) wk_X5_isLetter tw_877 rfl ⟨Nat.le_of_ble_eq_true rfl, Nat.le_of_ble_eq_true rfl⟩ ⟨rfl, rfl⟩ hl.1 rfl (Nat.le_of_ble_eq_true rfl) dX5_endOfRun_51 ⟨Nat.le_of_ble_eq_true rfl, Nat.le_of_ble_eq_true rfl⟩ (fun v273 f274 H locs q275 hW => ?_)
            obtain ⟨⟨x277, rfl, p278⟩, g276⟩ := q275
            have hF := FM.tr hF g276 rfl
            refine q_if_eq (tgt := 63) hx hb dX5_endOfRun_54 (by decide) rfl (fun c279 => ?_) (fun c279 => ?_)
            · clear p278
              exact J250 f274 ((fm_I g276 ru1 rfl).trans ((fm_I g262 ru1 rfl).trans ((fm_I g255 ru1 rfl).trans m173))) ((fm_R g276 ru1 rfl).trans m268) _ _ _ hW hF (lv_sub hl [0, 1, 2, 3] rfl)
            · have q280 : 97 ≤ y270.toInt ∧ y270.toInt ≤ 122 := by omega
              clear p278
              refine q_iinc hx hb dX5_endOfRun_57 hl (k := 0) rfl rfl rfl (by omega) (by decide) (fun i281 ls h282 hl => ?_)
              have hl : lv_has ls 4 [(3, .int i281), (2, .int y4), (0, .ref u1), (1, .int u2)] := hl
              refine lv_goto (tgt := 11) hx hb dX5_endOfRun_60 (by decide) ?_
              exact ih11 f274 i281 ((fm_R g276 ru1 rfl).trans m268) (by omega) (by omega) _ _ _ hW hF (lv_sub hl [0, 1, 2, 3] rfl)
        · have q283 : 48 ≤ y4.toInt ∧ y4.toInt ≤ 57 := by omega
          clear p257
          refine lv_aload_n hx hb dX5_endOfRun_26 rfl (lv_at hl 2 rfl) ?_
          refine fg_RX5_85 E hW ru1 dX5_endOfRun_27 (fun a284 m285 r286 => ?_)
          obtain rfl : a1 = a284 := (((fm_R g255 ru1 rfl).trans m168)).symm.trans m285
          refine lv_iload_n hx hb dX5_endOfRun_30 rfl (lv_at hl 0 rfl) ?_
          refine gl_581 E hW r3 ⟨by omega, by omega⟩ dX5_endOfRun_31 (fun y287 m288 => ?_)
          refine t_callS (As := [.int y287]) (rest := []) E hW (c_X5_isDigit l G cI cJ cZ cD cR cT kp L f253 hW.2.2.2 _ y287) wk_X5_isDigit tw_874 rfl ⟨Nat.le_of_ble_eq_true rfl, Nat.le_of_ble_eq_true rfl⟩ ⟨rfl, rfl⟩ hl.1 rfl (Nat.le_of_ble_eq_true rfl) dX5_endOfRun_32 ⟨Nat.le_of_ble_eq_true rfl, Nat.le_of_ble_eq_true rfl⟩ (fun v290 f291 H locs q292 hW => ?_)
          obtain ⟨⟨x294, rfl, p295⟩, g293⟩ := q292
          have hF := FM.tr hF g293 rfl
          refine q_if_ne (tgt := 57) hx hb dX5_endOfRun_35 (by decide) rfl (fun c296 => ?_) (fun c296 => ?_)
          · have q297 : 48 ≤ y287.toInt ∧ y287.toInt ≤ 57 := by omega
            clear p295
            refine q_iinc hx hb dX5_endOfRun_57 hl (k := 0) rfl rfl rfl (by omega) (by decide) (fun i298 ls h299 hl => ?_)
            have hl : lv_has ls 4 [(3, .int i298), (2, .int y4), (0, .ref u1), (1, .int u2)] := hl
            refine lv_goto (tgt := 11) hx hb dX5_endOfRun_60 (by decide) ?_
            exact ih11 f291 i298 ((fm_R g293 ru1 rfl).trans m285) (by omega) (by omega) _ _ _ hW hF (lv_sub hl [0, 1, 2, 3] rfl)
          · clear p295
            refine lv_iload_n hx hb dX5_endOfRun_38 rfl (lv_at hl 1 rfl) ?_
            refine t_callS (As := [.int y4]) (rest := []) E hW (c_X5_isLetter l G cI cJ cZ cD cR cT kp L f291 hW.2.2.2 _ y4) wk_X5_isLetter tw_877 rfl ⟨Nat.le_of_ble_eq_true rfl, Nat.le_of_ble_eq_true rfl⟩ ⟨rfl, rfl⟩ hl.1 rfl (Nat.le_of_ble_eq_true rfl) dX5_endOfRun_39 ⟨Nat.le_of_ble_eq_true rfl, Nat.le_of_ble_eq_true rfl⟩ (fun v300 f301 H locs q302 hW => ?_)
            obtain ⟨⟨x304, rfl, p305⟩, g303⟩ := q302
            have m306 : aI (f301 a1) (y169 : Int32).toNatClampNeg = y287 := ((congrArg (fun z => aI z (y169 : Int32).toNatClampNeg) (fm_A g303 r3 (by decide) rfl)).trans ((congrArg (fun z => aI z (y169 : Int32).toNatClampNeg) (fm_A g293 r3 (by decide) rfl)).trans m288))
            have hF := FM.tr hF g303 rfl
            refine q_if_eq (tgt := 63) hx hb dX5_endOfRun_42 (by decide) rfl (fun c307 => ?_) (fun c307 => ?_)
            · clear p305
              exact J250 f301 ((fm_I g303 ru1 rfl).trans ((fm_I g293 ru1 rfl).trans ((fm_I g255 ru1 rfl).trans m173))) ((fm_R g303 ru1 rfl).trans ((fm_R g293 ru1 rfl).trans m285)) _ _ _ hW hF (lv_sub hl [0, 1, 2, 3] rfl)
            · have q308 : 97 ≤ y4.toInt ∧ y4.toInt ≤ 122 := by omega
              clear p305
              refine lv_aload_n hx hb dX5_endOfRun_45 rfl (lv_at hl 2 rfl) ?_
              refine fg_RX5_85 E hW ru1 dX5_endOfRun_46 (fun a309 m310 r311 => ?_)
              obtain rfl : a1 = a309 := (((fm_R g303 ru1 rfl).trans ((fm_R g293 ru1 rfl).trans m285))).symm.trans m310
              refine lv_iload_n hx hb dX5_endOfRun_49 rfl (lv_at hl 0 rfl) ?_
              refine gl_581 E hW r3 ⟨by omega, by omega⟩ dX5_endOfRun_50 (fun y312 m313 => ?_)
              obtain rfl : y287 = y312 := (m306).symm.trans m313
              refine t_callS (As := [.int y287]) (rest := []) E hW (c_X5_isLetter l G cI cJ cZ cD cR cT kp L f301 hW.2.2.2 _ y287) wk_X5_isLetter tw_877 rfl ⟨Nat.le_of_ble_eq_true rfl, Nat.le_of_ble_eq_true rfl⟩ ⟨rfl, rfl⟩ hl.1 rfl (Nat.le_of_ble_eq_true rfl) dX5_endOfRun_51 ⟨Nat.le_of_ble_eq_true rfl, Nat.le_of_ble_eq_true rfl⟩ (fun v315 f316 H locs q317 hW => ?_)
              obtain ⟨⟨x319, rfl, p320⟩, g318⟩ := q317
              have hF := FM.tr hF g318 rfl
              refine q_if_eq (tgt := 63) hx hb dX5_endOfRun_54 (by decide) rfl (fun c321 => ?_) (fun c321 => ?_)
              · clear p320
                exact J250 f316 ((fm_I g318 ru1 rfl).trans ((fm_I g303 ru1 rfl).trans ((fm_I g293 ru1 rfl).trans ((fm_I g255 ru1 rfl).trans m173)))) ((fm_R g318 ru1 rfl).trans m310) _ _ _ hW hF (lv_sub hl [0, 1, 2, 3] rfl)
              · have q322 : 97 ≤ y287.toInt ∧ y287.toInt ≤ 122 := by omega
                clear p320
                refine q_iinc hx hb dX5_endOfRun_57 hl (k := 0) rfl rfl rfl (by omega) (by decide) (fun i323 ls h324 hl => ?_)
                have hl : lv_has ls 4 [(3, .int i323), (2, .int y4), (0, .ref u1), (1, .int u2)] := hl
                refine lv_goto (tgt := 11) hx hb dX5_endOfRun_60 (by decide) ?_
                exact ih11 f316 i323 ((fm_R g318 ru1 rfl).trans m310) (by omega) (by omega) _ _ _ hW hF (lv_sub hl [0, 1, 2, 3] rfl)
  exact L171 400 f0 x7 m2 (by omega) (by omega) _ _ _ hW hF (lv_sub hl [0, 1, 2, 3] rfl)
def ms_X5_numberIn : List (Nat × Nat) := []
def po_X5_numberIn (kp : Nat → Nat) (L : List Nat) (f0 : Nat → va_E) (u1 : Nat) (u2 : Int32) (u3 : Int32) : Option Value → (Nat → va_E) → Prop := fun v f => (∃ r : Int32, v = some (.int r) ∧ (r.toInt ≤ 100001)) ∧ FM kp L ms_X5_numberIn f0 f
set_option maxHeartbeats 4000000 in
set_option maxRecDepth 100000 in
theorem c_X5_numberIn (l : Launch) (G : va_G) (cI cJ cZ cD cR cT : ClassId) (kp : Nat → Nat) (L : List Nat) (f0 : Nat → va_E) (hTH : TH cI cJ cZ cD cR cT kp L f0) (sz : Nat) (u1 : Nat) (u2 : Int32) (u3 : Int32) (ru1 : RK kp L u1 8) (pu2 : (0 : Int) ≤ u2.toInt ∧ u2.toInt ≤ 399) (pu3 : (1 : Int) ≤ u3.toInt ∧ u3.toInt ≤ 400) : Met l yX5_numberIn (Cond.code yX5_numberIn cX5_numberIn 5 (some .int) :: wTab) ({ frames := 1, cells := 0, slots := 0, locals := 60 }) (va_Pc [.ref u1, .int u2, .int u3] (PreW G (tys6 cI cJ cZ cD cR cT) (va_pl L f0) sz)) (QT (po_X5_numberIn kp L f0 u1 u2 u3) G cI cJ cZ cD cR cT (va_A (va_pl L f0) sz) kp L) 0 0 (va_A (va_pl L f0) sz) := by
  refine metT (by decide) (Nat.le_of_ble_eq_true rfl) hTH ?_
  intro p e s m below meth c A ls E hW hl
  obtain ⟨hx, hb, -, hml, hown, hts, -, -, -⟩ := id E
  have hF : FM kp L ms_X5_numberIn f0 f0 := FM.rf
  have hl : lv_has ls 5 [(0, .ref u1), (1, .int u2), (2, .int u3)] := hl
  refine lv_iconst (v := 0) hx hb dX5_numberIn_0 (by decide) ?_
  refine lv_istore_n (lv' := [(3, .int 0), (0, .ref u1), (1, .int u2), (2, .int u3)]) hx hb dX5_numberIn_1 rfl hl (by decide) rfl (fun ls hl => ?_)
  refine lv_iload_n hx hb dX5_numberIn_2 rfl (lv_at hl 2 rfl) ?_
  refine lv_istore (lv' := [(4, .int u2), (3, .int 0), (0, .ref u1), (1, .int u2), (2, .int u3)]) hx hb dX5_numberIn_3 hl (by decide) rfl (fun ls hl => ?_)
  have L44 : ∀ (n : Nat), ∀ (y40 : Int32) (y42 : Int32) (b41 : (0 : Int) ≤ y40.toInt ∧ y40.toInt ≤ 400) (b43 : y42.toInt ≤ 100001) (hm : (401 : Int) - y40.toInt ≤ n) (H : Heap) (locs : List Loc) (ls : Array Slot), WS G cI cJ cZ cD cR cT A kp L f0 s H locs → FM kp L ms_X5_numberIn f0 f0 → lv_has ls 5 [(4, .int y40), (3, .int y42), (0, .ref u1), (1, .int u2), (2, .int u3)] → W p l e ({ frames := 1, cells := 0, slots := 0, locals := 60 }) s m ([.ref u1, .int u2, .int u3] : List Value).toArray below meth c H locs 0 0 (MQ below (QT (po_X5_numberIn kp L f0 u1 u2 u3) G cI cJ cZ cD cR cT A kp L) ([.ref u1, .int u2, .int u3] : List Value).toArray s 0 0 A) (F0 m 5 ls []) := by
    intro n
    induction n with
    | zero =>
      intro y40 y42 b41 b43 hm H locs ls hW hF hl
      have hz := i32_b y40
      exfalso; omega
    | succ n ih =>
      intro y40 y42 b41 b43 hm H locs ls hW hF hl
      have ih5 := ih
      refine lv_iload hx hb dX5_numberIn_5 (lv_at hl 0 rfl) ?_
      refine lv_iload_n hx hb dX5_numberIn_7 rfl (lv_at hl 4 rfl) ?_
      refine q_icmp_ge (tgt := 38) hx hb dX5_numberIn_8 (by decide) rfl rfl (fun c58 => ?_) (fun c58 => ?_)
      · refine lv_iload_n hx hb dX5_numberIn_38 rfl (lv_at hl 1 rfl) ?_
        exact e_I E hW rfl ⟨⟨_, rfl, (by first | omega | trivial)⟩, hF⟩ dX5_numberIn_39
      · refine lv_iload_n hx hb dX5_numberIn_11 rfl (lv_at hl 1 rfl) ?_
        refine lv_bipush (v := 10) hx hb dX5_numberIn_12 (by decide) ?_
        refine u_imul hx hb dX5_numberIn_14 (fun x59 => ?_)
        refine lv_aload_n hx hb dX5_numberIn_15 rfl (lv_at hl 2 rfl) ?_
        refine fg_RX5_85 E hW ru1 dX5_numberIn_16 (fun a60 m61 r62 => ?_)
        refine lv_iload hx hb dX5_numberIn_19 (lv_at hl 0 rfl) ?_
        refine gl_581 E hW r62 ⟨by omega, by omega⟩ dX5_numberIn_21 (fun y63 m64 => ?_)
        refine u_iadd hx hb dX5_numberIn_22 (fun x66 => ?_)
        refine lv_bipush (v := 48) hx hb dX5_numberIn_23 (by decide) ?_
        refine u_isub hx hb dX5_numberIn_25 (fun x67 => ?_)
        refine lv_ldc (v := 100001) hx hb hown (hts _ tw_883) dX5_numberIn_26 ?_
        refine t_min (Y := 100001) (own := RX5) E tw_884 ⟨tw_637, tw_115, tw_638⟩ hl.1 ⟨Nat.le_of_ble_eq_true rfl, Nat.le_of_ble_eq_true rfl⟩ ⟨Nat.le_of_ble_eq_true rfl, Nat.le_of_ble_eq_true rfl⟩ rfl rfl dX5_numberIn_28 (fun x68 h69 => ?_)
        refine lv_istore_n (lv' := [(3, .int x68), (4, .int y40), (0, .ref u1), (1, .int u2), (2, .int u3)]) hx hb dX5_numberIn_31 rfl hl (by decide) rfl (fun ls hl => ?_)
        refine q_iinc hx hb dX5_numberIn_32 hl (k := 1) rfl rfl rfl (by omega) (by decide) (fun i70 ls h71 hl => ?_)
        have hl : lv_has ls 5 [(4, .int i70), (3, .int x68), (0, .ref u1), (1, .int u2), (2, .int u3)] := hl
        refine lv_goto (tgt := 5) hx hb dX5_numberIn_35 (by decide) ?_
        exact ih5 i70 x68 (by omega) (by omega) (by omega) _ _ _ hW hF (lv_sub hl [0, 1, 2, 3, 4] rfl)
  have hk72 : (0 : Int32).toInt = 0 := rfl
  exact L44 401 u2 0 (by omega) (by decide) (by omega) _ _ _ hW hF (lv_sub hl [0, 1, 2, 3, 4] rfl)
def ms_X8_valueOf : List (Nat × Nat) := []
def po_X8_valueOf (kp : Nat → Nat) (L : List Nat) (f0 : Nat → va_E) (u1 : Int32) : Option Value → (Nat → va_E) → Prop := fun v f => (∃ r : UInt64, v = some (.double r)) ∧ FM kp L ms_X8_valueOf f0 f
set_option maxHeartbeats 4000000 in
set_option maxRecDepth 100000 in
theorem c_X8_valueOf (l : Launch) (G : va_G) (cI cJ cZ cD cR cT : ClassId) (kp : Nat → Nat) (L : List Nat) (f0 : Nat → va_E) (hTH : TH cI cJ cZ cD cR cT kp L f0) (sz : Nat) (u1 : Int32) : MetD lw_cs l yX8_valueOf (Cond.code yX8_valueOf cX8_valueOf 7 (some .double) :: wTab) ({ frames := 1, cells := 0, slots := 0, locals := 60 }) (va_Pc [.int u1] (PreW G (tys6 cI cJ cZ cD cR cT) (va_pl L f0) sz)) (QT (po_X8_valueOf kp L f0 u1) G cI cJ cZ cD cR cT (va_A (va_pl L f0) sz) kp L) 0 0 (va_A (va_pl L f0) sz) := by
  refine metTD (by decide) (Nat.le_of_ble_eq_true rfl) hTH ?_
  intro p e s S m below meth c A ls E hdr hW hl
  obtain ⟨hx, hb, -, hml, hown, hts, -, -, -⟩ := id E
  have hF : FM kp L ms_X8_valueOf f0 f0 := FM.rf
  have hl : lv_has ls 7 [(0, .int u1)] := hl
  refine lv_iload_n hx hb dX8_valueOf_0 rfl (lv_at hl 0 rfl) ?_
  refine lv_bipush (v := 23) hx hb dX8_valueOf_1 (by decide) ?_
  refine u_iushr hx hb dX8_valueOf_3 (fun x1 => ?_)
  refine lv_sipush (v := 255) hx hb dX8_valueOf_4 (by decide) ?_
  refine q_iand (M := 255) (k := 8) hx hb dX8_valueOf_7 (by decide) (by decide) (by decide) (fun x2 h3 => ?_)
  refine lv_istore_n (lv' := [(1, .int x2), (0, .int u1)]) hx hb dX8_valueOf_8 rfl hl (by decide) rfl (fun ls hl => ?_)
  refine lv_iload_n hx hb dX8_valueOf_9 rfl (lv_at hl 1 rfl) ?_
  refine lv_ldc (v := 8388607) hx hb hown (hts _ tw_809) dX8_valueOf_10 ?_
  refine q_iand (M := 8388607) (k := 23) hx hb dX8_valueOf_12 (by decide) (by decide) (by decide) (fun x4 h5 => ?_)
  refine lv_istore_n (lv' := [(2, .int x4), (1, .int x2), (0, .int u1)]) hx hb dX8_valueOf_13 rfl hl (by decide) rfl (fun ls hl => ?_)
  refine lv_iload_n hx hb dX8_valueOf_14 rfl (lv_at hl 2 rfl) ?_
  refine q_if_ge (tgt := 34) hx hb dX8_valueOf_15 (by decide) rfl (fun c6 => ?_) (fun c6 => ?_)
  · refine lv_iload_n hx hb dX8_valueOf_34 rfl (lv_at hl 1 rfl) ?_
    refine lv_sipush (v := 136) hx hb dX8_valueOf_35 (by decide) ?_
    refine q_icmp_le (Y := 136) (tgt := 45) hx hb dX8_valueOf_38 (by decide) rfl rfl (fun c7 => ?_) (fun c7 => ?_)
    · refine lv_iload_n hx hb dX8_valueOf_45 rfl (lv_at hl 1 rfl) ?_
      have J12 : ∀ (d11 : UInt64) (S : State) (E : EV G cI cJ cZ cD cR cT A cX8_valueOf (some .double) 7 yX8_valueOf.cls p S m ([.int u1] : List Value).toArray meth c) (hdr : DR s S) (H : Heap) (locs : List Loc) (ls : Array Slot), WS G cI cJ cZ cD cR cT A kp L f0 S H locs → FM kp L ms_X8_valueOf f0 f0 → lv_has ls 7 [(2, .int x4), (1, .int x2), (0, .int u1)] → W p l e ({ frames := 1, cells := 0, slots := 0, locals := 60 }) S m ([.int u1] : List Value).toArray below meth c H locs 0 0 (MQD lw_cs below (QT (po_X8_valueOf kp L f0 u1) G cI cJ cZ cD cR cT A kp L) ([.int u1] : List Value).toArray s 0 0 A) (F0 m 59 ls [.double d11]) := by
        intro d11 S E hdr H locs ls hW hF hl
        obtain ⟨hx, hb, -, hml, hown, hts, -, -, -⟩ := id E
        refine lv_dstore_n (lv' := [(3, .double d11), (2, .int x4), (1, .int x2), (0, .int u1)]) hx hb dX8_valueOf_59 rfl hl (by decide) rfl (fun ls hl => ?_)
        refine lv_sipush (v := 150) hx hb dX8_valueOf_60 (by decide) ?_
        refine lv_iload_n hx hb dX8_valueOf_63 rfl (lv_at hl 2 rfl) ?_
        refine lv_iconst (v := 1) hx hb dX8_valueOf_64 (by decide) ?_
        refine t_max (Y := 1) (own := RX8) E tw_812 ⟨tw_714, tw_115, tw_715⟩ hl.1 ⟨Nat.le_of_ble_eq_true rfl, Nat.le_of_ble_eq_true rfl⟩ ⟨Nat.le_of_ble_eq_true rfl, Nat.le_of_ble_eq_true rfl⟩ rfl rfl dX8_valueOf_65 (fun x13 h14 => ?_)
        refine q_isub (X := 150) hx hb dX8_valueOf_68 rfl rfl (by omega) (fun x15 h16 => ?_)
        refine lv_istore (lv' := [(5, .int x15), (3, .double d11), (2, .int x4), (1, .int x2), (0, .int u1)]) hx hb dX8_valueOf_69 hl (by decide) rfl (fun ls hl => ?_)
        refine lv_iconst (v := 0) hx hb dX8_valueOf_71 (by decide) ?_
        refine lv_istore (lv' := [(6, .int 0), (5, .int x15), (3, .double d11), (2, .int x4), (1, .int x2), (0, .int u1)]) hx hb dX8_valueOf_72 hl (by decide) rfl (fun ls hl => ?_)
        have L272 : ∀ (n : Nat), ∀ (y269 : Int32) (d271 : UInt64) (b270 : (0 : Int) ≤ y269.toInt ∧ y269.toInt ≤ 150) (hm : (151 : Int) - y269.toInt ≤ n) (S : State) (E : EV G cI cJ cZ cD cR cT A cX8_valueOf (some .double) 7 yX8_valueOf.cls p S m ([.int u1] : List Value).toArray meth c) (hdr : DR s S) (H : Heap) (locs : List Loc) (ls : Array Slot), WS G cI cJ cZ cD cR cT A kp L f0 S H locs → FM kp L ms_X8_valueOf f0 f0 → lv_has ls 7 [(6, .int y269), (5, .int x15), (3, .double d271), (2, .int x4), (1, .int x2), (0, .int u1)] → W p l e ({ frames := 1, cells := 0, slots := 0, locals := 60 }) S m ([.int u1] : List Value).toArray below meth c H locs 0 0 (MQD lw_cs below (QT (po_X8_valueOf kp L f0 u1) G cI cJ cZ cD cR cT A kp L) ([.int u1] : List Value).toArray s 0 0 A) (F0 m 74 ls []) := by
          intro n
          induction n with
          | zero =>
            intro y269 d271 b270 hm S E hdr H locs ls hW hF hl
            have hz := i32_b y269
            exfalso; omega
          | succ n ih =>
            intro y269 d271 b270 hm S E hdr H locs ls hW hF hl
            obtain ⟨hx, hb, -, hml, hown, hts, -, -, -⟩ := id E
            have ih74 := ih
            refine lv_iload hx hb dX8_valueOf_74 (lv_at hl 0 rfl) ?_
            refine lv_iload hx hb dX8_valueOf_76 (lv_at hl 1 rfl) ?_
            refine q_icmp_ge (tgt := 93) hx hb dX8_valueOf_78 (by decide) rfl rfl (fun c276 => ?_) (fun c276 => ?_)
            · refine lv_dload_n hx hb dX8_valueOf_93 rfl (lv_at hl 2 rfl) ?_
              refine lv_ldc2d hx hb hown (hts _ tw_814) dX8_valueOf_94 ?_
              have J278 : ∀ (d277 : UInt64) (S : State) (E : EV G cI cJ cZ cD cR cT A cX8_valueOf (some .double) 7 yX8_valueOf.cls p S m ([.int u1] : List Value).toArray meth c) (hdr : DR s S) (H : Heap) (locs : List Loc) (ls : Array Slot), WS G cI cJ cZ cD cR cT A kp L f0 S H locs → FM kp L ms_X8_valueOf f0 f0 → lv_has ls 7 [(6, .int y269), (5, .int x15), (3, .double d271), (2, .int x4), (1, .int x2), (0, .int u1)] → W p l e ({ frames := 1, cells := 0, slots := 0, locals := 60 }) S m ([.int u1] : List Value).toArray below meth c H locs 0 0 (MQD lw_cs below (QT (po_X8_valueOf kp L f0 u1) G cI cJ cZ cD cR cT A kp L) ([.int u1] : List Value).toArray s 0 0 A) (F0 m 108 ls [.double d277]) := by
                intro d277 S E hdr H locs ls hW hF hl
                obtain ⟨hx, hb, -, hml, hown, hts, -, -, -⟩ := id E
                exact eD_D E hdr hW rfl ⟨⟨_, rfl⟩, hF⟩ dX8_valueOf_108
              refine u_dcmp_le (tgt := 107) hx hb dX8_valueOf_97 dX8_valueOf_98 (by decide) ?_ ?_
              · refine lv_dload_n hx hb dX8_valueOf_107 rfl (lv_at hl 2 rfl) ?_
                exact J278 d271  S E hdr _ _ _ hW hF (lv_sub hl [0, 1, 2, 3, 4, 5] rfl)
              · refine lv_ldc2d hx hb hown (hts _ tw_810) dX8_valueOf_101 ?_
                refine lv_goto (tgt := 108) hx hb dX8_valueOf_104 (by decide) ?_
                exact J278 13830554455654793216  S E hdr _ _ _ hW hF (lv_sub hl [0, 1, 2, 3, 4, 5] rfl)
            · refine lv_dload_n hx hb dX8_valueOf_81 rfl (lv_at hl 2 rfl) ?_
              refine lv_ldc2d hx hb hown (hts _ tw_813) dX8_valueOf_82 ?_
              refine dw_ddiv E hdr hW dX8_valueOf_85 (fun d280 S E hdr hW => ?_)
              obtain ⟨hx, hb, -, hml, hown, hts, -, -, -⟩ := id E
              refine lv_dstore_n (lv' := [(3, .double d280), (6, .int y269), (5, .int x15), (2, .int x4), (1, .int x2), (0, .int u1)]) hx hb dX8_valueOf_86 rfl hl (by decide) rfl (fun ls hl => ?_)
              refine q_iinc hx hb dX8_valueOf_87 hl (k := 1) rfl rfl rfl (by omega) (by decide) (fun i281 ls h282 hl => ?_)
              have hl : lv_has ls 7 [(6, .int i281), (3, .double d280), (5, .int x15), (2, .int x4), (1, .int x2), (0, .int u1)] := hl
              refine lv_goto (tgt := 74) hx hb dX8_valueOf_90 (by decide) ?_
              exact ih74 i281 d280 (by omega) (by omega) S E hdr _ _ _ hW hF (lv_sub hl [0, 2, 1, 3, 4, 5] rfl)
        have hk283 : (0 : Int32).toInt = 0 := rfl
        exact L272 151 0 d11 (by decide) (by omega) S E hdr _ _ _ hW hF (lv_sub hl [0, 1, 2, 3, 4, 5] rfl)
      refine q_if_ne (tgt := 54) hx hb dX8_valueOf_46 (by decide) rfl (fun c284 => ?_) (fun c284 => ?_)
      · refine lv_iload_n hx hb dX8_valueOf_54 rfl (lv_at hl 0 rfl) ?_
        refine lv_ldc (v := 8388608) hx hb hown (hts _ tw_811) dX8_valueOf_55 ?_
        refine u_ior hx hb dX8_valueOf_57 (fun x285 => ?_)
        refine lv_i2d hx hb dX8_valueOf_58 (lv_topd (fun d286 _ => ?_))
        exact J12 d286  S E hdr _ _ _ hW hF (lv_sub hl [0, 1, 2] rfl)
      · refine lv_iload_n hx hb dX8_valueOf_49 rfl (lv_at hl 0 rfl) ?_
        refine lv_i2d hx hb dX8_valueOf_50 (lv_topd (fun d287 _ => ?_))
        refine lv_goto (tgt := 59) hx hb dX8_valueOf_51 (by decide) ?_
        exact J12 d287  S E hdr _ _ _ hW hF (lv_sub hl [0, 1, 2] rfl)
    · refine lv_ldc2d hx hb hown (hts _ tw_810) dX8_valueOf_41 ?_
      exact eD_D E hdr hW rfl ⟨⟨_, rfl⟩, hF⟩ dX8_valueOf_44
  · refine lv_iload_n hx hb dX8_valueOf_18 rfl (lv_at hl 1 rfl) ?_
    have J291 : ∀ (d290 : UInt64) (S : State) (E : EV G cI cJ cZ cD cR cT A cX8_valueOf (some .double) 7 yX8_valueOf.cls p S m ([.int u1] : List Value).toArray meth c) (hdr : DR s S) (H : Heap) (locs : List Loc) (ls : Array Slot), WS G cI cJ cZ cD cR cT A kp L f0 S H locs → FM kp L ms_X8_valueOf f0 f0 → lv_has ls 7 [(2, .int x4), (1, .int x2), (0, .int u1)] → W p l e ({ frames := 1, cells := 0, slots := 0, locals := 60 }) S m ([.int u1] : List Value).toArray below meth c H locs 0 0 (MQD lw_cs below (QT (po_X8_valueOf kp L f0 u1) G cI cJ cZ cD cR cT A kp L) ([.int u1] : List Value).toArray s 0 0 A) (F0 m 33 ls [.double d290]) := by
      intro d290 S E hdr H locs ls hW hF hl
      obtain ⟨hx, hb, -, hml, hown, hts, -, -, -⟩ := id E
      exact eD_D E hdr hW rfl ⟨⟨_, rfl⟩, hF⟩ dX8_valueOf_33
    refine q_if_ne (tgt := 30) hx hb dX8_valueOf_19 (by decide) rfl (fun c292 => ?_) (fun c292 => ?_)
    · refine lv_ldc2d hx hb hown (hts _ tw_810) dX8_valueOf_30 ?_
      exact J291 13830554455654793216  S E hdr _ _ _ hW hF (lv_sub hl [0, 1, 2] rfl)
    · refine lv_iload_n hx hb dX8_valueOf_22 rfl (lv_at hl 0 rfl) ?_
      refine q_if_ne (tgt := 30) hx hb dX8_valueOf_23 (by decide) rfl (fun c293 => ?_) (fun c293 => ?_)
      · refine lv_ldc2d hx hb hown (hts _ tw_810) dX8_valueOf_30 ?_
        exact J291 13830554455654793216  S E hdr _ _ _ hW hF (lv_sub hl [0, 1, 2] rfl)
      · refine lv_dconst0 hx hb dX8_valueOf_26 (lv_topd (fun d294 _ => ?_))
        refine lv_goto (tgt := 33) hx hb dX8_valueOf_27 (by decide) ?_
        exact J291 d294  S E hdr _ _ _ hW hF (lv_sub hl [0, 1, 2] rfl)
def ms_X8_readNumbers : List (Nat × Nat) := [(8, 3), (582, 0)]
def po_X8_readNumbers (kp : Nat → Nat) (L : List Nat) (f0 : Nat → va_E) (h0 : Nat) : Option Value → (Nat → va_E) → Prop := fun v f => (∃ r : Int32, v = some (.int r) ∧ ((0 : Int) ≤ r.toInt ∧ r.toInt ≤ 40)) ∧ FM kp L ms_X8_readNumbers f0 f
set_option maxHeartbeats 4000000 in
set_option maxRecDepth 100000 in
theorem c_X8_readNumbers (l : Launch) (G : va_G) (cI cJ cZ cD cR cT : ClassId) (kp : Nat → Nat) (L : List Nat) (f0 : Nat → va_E) (hTH : TH cI cJ cZ cD cR cT kp L f0) (sz : Nat) (h0 : Nat) (rh0 : RK kp L h0 8) : MetD lw_cs l yX8_readNumbers (Cond.code yX8_readNumbers cX8_readNumbers 3 (some .int) :: wTab) ({ frames := 2, cells := 0, slots := 0, locals := 86 }) (va_Pc [.ref h0] (PreW G (tys6 cI cJ cZ cD cR cT) (va_pl L f0) sz)) (QT (po_X8_readNumbers kp L f0 h0) G cI cJ cZ cD cR cT (va_A (va_pl L f0) sz) kp L) 0 0 (va_A (va_pl L f0) sz) := by
  refine metTD (by decide) (Nat.le_of_ble_eq_true rfl) hTH ?_
  intro p e s S m below meth c A ls E hdr hW hl
  obtain ⟨hx, hb, -, hml, hown, hts, -, -, -⟩ := id E
  have hF : FM kp L ms_X8_readNumbers f0 f0 := FM.rf
  have hl : lv_has ls 3 [(0, .ref h0)] := hl
  refine lv_aload_n hx hb dX8_readNumbers_0 rfl (lv_at hl 0 rfl) ?_
  refine lv_aload_n hx hb dX8_readNumbers_1 rfl (lv_at hl 0 rfl) ?_
  refine fg_RX8_19 E hW rh0 dX8_readNumbers_2 (fun y1 m2 b3 => ?_)
  refine lv_iconst (v := 4) hx hb dX8_readNumbers_5 (by decide) ?_
  refine q_idiv (Y := 4) hx hb dX8_readNumbers_6 rfl rfl (by omega) (by omega) (fun x4 h5 => ?_)
  refine lv_bipush (v := 40) hx hb dX8_readNumbers_7 (by decide) ?_
  refine t_min (Y := 40) (own := RX8) E tw_805 ⟨tw_637, tw_115, tw_638⟩ hl.1 ⟨Nat.le_of_ble_eq_true rfl, Nat.le_of_ble_eq_true rfl⟩ ⟨Nat.le_of_ble_eq_true rfl, Nat.le_of_ble_eq_true rfl⟩ rfl rfl dX8_readNumbers_9 (fun x6 h7 => ?_)
  refine fp_RX8_29 E hW rh0 (by omega) dX8_readNumbers_12 (fun f8 H locs e9 n10 g11 hW => ?_)
  have hF := FM.tr hF g11 rfl
  refine lv_iconst (v := 0) hx hb dX8_readNumbers_15 (by decide) ?_
  refine lv_istore_n (lv' := [(1, .int 0), (0, .ref h0)]) hx hb dX8_readNumbers_16 rfl hl (by decide) rfl (fun ls hl => ?_)
  have L1176 : ∀ (n : Nat), ∀ (f1171 : Nat → va_E) (y1174 : Int32) (m1172 : oI (f1171 h0) 0 = y1) (m1173 : oI (f1171 h0) 3 = x6) (b1175 : (0 : Int) ≤ y1174.toInt ∧ y1174.toInt ≤ 40) (hm : (41 : Int) - y1174.toInt ≤ n) (S : State) (E : EV G cI cJ cZ cD cR cT A cX8_readNumbers (some .int) 3 yX8_readNumbers.cls p S m ([.ref h0] : List Value).toArray meth c) (hdr : DR s S) (H : Heap) (locs : List Loc) (ls : Array Slot), WS G cI cJ cZ cD cR cT A kp L f1171 S H locs → FM kp L ms_X8_readNumbers f0 f1171 → lv_has ls 3 [(1, .int y1174), (0, .ref h0)] → W p l e ({ frames := 2, cells := 0, slots := 0, locals := 86 }) S m ([.ref h0] : List Value).toArray below meth c H locs 0 0 (MQD lw_cs below (QT (po_X8_readNumbers kp L f0 h0) G cI cJ cZ cD cR cT A kp L) ([.ref h0] : List Value).toArray s 0 0 A) (F0 m 17 ls []) := by
    intro n
    induction n with
    | zero =>
      intro f1171 y1174 m1172 m1173 b1175 hm S E hdr H locs ls hW hF hl
      have hz := i32_b y1174
      exfalso; omega
    | succ n ih =>
      intro f1171 y1174 m1172 m1173 b1175 hm S E hdr H locs ls hW hF hl
      obtain ⟨hx, hb, -, hml, hown, hts, -, -, -⟩ := id E
      have ih17 := ih
      refine lv_iload_n hx hb dX8_readNumbers_17 rfl (lv_at hl 0 rfl) ?_
      refine lv_aload_n hx hb dX8_readNumbers_18 rfl (lv_at hl 1 rfl) ?_
      refine fg_RX8_29 E hW rh0 dX8_readNumbers_19 (fun y1177 m1178 b1179 => ?_)
      obtain rfl : x6 = y1177 := (m1173).symm.trans m1178
      refine q_icmp_ge (tgt := 86) hx hb dX8_readNumbers_22 (by decide) rfl rfl (fun c1232 => ?_) (fun c1232 => ?_)
      · refine lv_aload_n hx hb dX8_readNumbers_86 rfl (lv_at hl 1 rfl) ?_
        refine fg_RX8_29 E hW rh0 dX8_readNumbers_87 (fun y1233 m1234 b1235 => ?_)
        obtain rfl : x6 = y1233 := (m1178).symm.trans m1234
        exact eD_I E hdr hW rfl ⟨⟨_, rfl, (by first | omega | trivial)⟩, hF⟩ dX8_readNumbers_90
      · refine lv_iload_n hx hb dX8_readNumbers_25 rfl (lv_at hl 0 rfl) ?_
        refine lv_iconst (v := 4) hx hb dX8_readNumbers_26 (by decide) ?_
        refine q_imul (Y := 4) hx hb dX8_readNumbers_27 rfl rfl (by omega) (fun x1236 h1237 => ?_)
        refine lv_istore_n (lv' := [(2, .int x1236), (1, .int y1174), (0, .ref h0)]) hx hb dX8_readNumbers_28 rfl hl (by decide) rfl (fun ls hl => ?_)
        refine lv_aload_n hx hb dX8_readNumbers_29 rfl (lv_at hl 2 rfl) ?_
        refine fg_RX8_15 E hW rh0 dX8_readNumbers_30 (fun a1238 m1239 r1240 => ?_)
        refine lv_iload_n hx hb dX8_readNumbers_33 rfl (lv_at hl 1 rfl) ?_
        refine lv_aload_n hx hb dX8_readNumbers_34 rfl (lv_at hl 2 rfl) ?_
        refine fg_RX8_9 E hW rh0 dX8_readNumbers_35 (fun a1241 m1242 r1243 => ?_)
        refine lv_iload_n hx hb dX8_readNumbers_38 rfl (lv_at hl 0 rfl) ?_
        refine gl_581 E hW r1243 ⟨by omega, by omega⟩ dX8_readNumbers_39 (fun y1244 m1245 => ?_)
        refine lv_bipush (v := 24) hx hb dX8_readNumbers_40 (by decide) ?_
        refine u_ishl hx hb dX8_readNumbers_42 (fun x1247 => ?_)
        refine lv_aload_n hx hb dX8_readNumbers_43 rfl (lv_at hl 2 rfl) ?_
        refine fg_RX8_9 E hW rh0 dX8_readNumbers_44 (fun a1248 m1249 r1250 => ?_)
        obtain rfl : a1241 = a1248 := (m1242).symm.trans m1249
        refine lv_iload_n hx hb dX8_readNumbers_47 rfl (lv_at hl 0 rfl) ?_
        refine lv_iconst (v := 1) hx hb dX8_readNumbers_48 (by decide) ?_
        refine q_iadd (Y := 1) hx hb dX8_readNumbers_49 rfl rfl (by omega) (fun x1251 h1252 => ?_)
        refine gl_581 E hW r1243 ⟨by omega, by omega⟩ dX8_readNumbers_50 (fun y1253 m1254 => ?_)
        refine lv_bipush (v := 16) hx hb dX8_readNumbers_51 (by decide) ?_
        refine u_ishl hx hb dX8_readNumbers_53 (fun x1256 => ?_)
        refine u_ior hx hb dX8_readNumbers_54 (fun x1257 => ?_)
        refine lv_aload_n hx hb dX8_readNumbers_55 rfl (lv_at hl 2 rfl) ?_
        refine fg_RX8_9 E hW rh0 dX8_readNumbers_56 (fun a1258 m1259 r1260 => ?_)
        obtain rfl : a1241 = a1258 := (m1249).symm.trans m1259
        refine lv_iload_n hx hb dX8_readNumbers_59 rfl (lv_at hl 0 rfl) ?_
        refine lv_iconst (v := 2) hx hb dX8_readNumbers_60 (by decide) ?_
        refine q_iadd (Y := 2) hx hb dX8_readNumbers_61 rfl rfl (by omega) (fun x1261 h1262 => ?_)
        refine gl_581 E hW r1243 ⟨by omega, by omega⟩ dX8_readNumbers_62 (fun y1263 m1264 => ?_)
        refine lv_bipush (v := 8) hx hb dX8_readNumbers_63 (by decide) ?_
        refine u_ishl hx hb dX8_readNumbers_65 (fun x1266 => ?_)
        refine u_ior hx hb dX8_readNumbers_66 (fun x1267 => ?_)
        refine lv_aload_n hx hb dX8_readNumbers_67 rfl (lv_at hl 2 rfl) ?_
        refine fg_RX8_9 E hW rh0 dX8_readNumbers_68 (fun a1268 m1269 r1270 => ?_)
        obtain rfl : a1241 = a1268 := (m1259).symm.trans m1269
        refine lv_iload_n hx hb dX8_readNumbers_71 rfl (lv_at hl 0 rfl) ?_
        refine lv_iconst (v := 3) hx hb dX8_readNumbers_72 (by decide) ?_
        refine q_iadd (Y := 3) hx hb dX8_readNumbers_73 rfl rfl (by omega) (fun x1271 h1272 => ?_)
        refine gl_581 E hW r1243 ⟨by omega, by omega⟩ dX8_readNumbers_74 (fun y1273 m1274 => ?_)
        refine u_ior hx hb dX8_readNumbers_75 (fun x1276 => ?_)
        refine t_callSD (As := [.int x1276]) (rest := [.int y1174, .ref a1238]) E hdr hW (c_X8_valueOf l G cI cJ cZ cD cR cT kp L f1171 hW.2.2.2 _ x1276) wk_X8_valueOf tw_806 rfl ⟨Nat.le_of_ble_eq_true rfl, Nat.le_of_ble_eq_true rfl⟩ ⟨rfl, rfl⟩ hl.1 rfl (Nat.le_of_ble_eq_true rfl) dX8_readNumbers_76 ⟨Nat.le_of_ble_eq_true rfl, Nat.le_of_ble_eq_true rfl⟩ (fun v1277 f1278 S H locs q1279 E hdr hW => ?_)
        obtain ⟨hx, hb, -, hml, hown, hts, -, -, -⟩ := id E
        obtain ⟨⟨d1281, rfl⟩, g1280⟩ := q1279
        have hF := FM.tr hF g1280 rfl
        refine gs_582 E hW r1240 ⟨by omega, by omega⟩ dX8_readNumbers_79 (fun f1282 H locs n1284 g1285 hW => ?_)
        have m1286 : aI (f1282 a1241) (x1236 : Int32).toNatClampNeg = y1244 := ((congrArg (fun z => aI z (x1236 : Int32).toNatClampNeg) (fm_A g1285 r1243 (by decide) rfl)).trans ((congrArg (fun z => aI z (x1236 : Int32).toNatClampNeg) (fm_A g1280 r1243 (by decide) rfl)).trans m1245))
        have m1287 : aI (f1282 a1241) (x1251 : Int32).toNatClampNeg = y1253 := ((congrArg (fun z => aI z (x1251 : Int32).toNatClampNeg) (fm_A g1285 r1243 (by decide) rfl)).trans ((congrArg (fun z => aI z (x1251 : Int32).toNatClampNeg) (fm_A g1280 r1243 (by decide) rfl)).trans m1254))
        have m1288 : aI (f1282 a1241) (x1261 : Int32).toNatClampNeg = y1263 := ((congrArg (fun z => aI z (x1261 : Int32).toNatClampNeg) (fm_A g1285 r1243 (by decide) rfl)).trans ((congrArg (fun z => aI z (x1261 : Int32).toNatClampNeg) (fm_A g1280 r1243 (by decide) rfl)).trans m1264))
        have m1289 : aI (f1282 a1241) (x1271 : Int32).toNatClampNeg = y1273 := ((congrArg (fun z => aI z (x1271 : Int32).toNatClampNeg) (fm_A g1285 r1243 (by decide) rfl)).trans ((congrArg (fun z => aI z (x1271 : Int32).toNatClampNeg) (fm_A g1280 r1243 (by decide) rfl)).trans m1274))
        have hF := FM.tr hF g1285 rfl
        refine q_iinc hx hb dX8_readNumbers_80 hl (k := 1) rfl rfl rfl (by omega) (by decide) (fun i1290 ls h1291 hl => ?_)
        have hl : lv_has ls 3 [(1, .int i1290), (2, .int x1236), (0, .ref h0)] := hl
        refine lv_goto (tgt := 17) hx hb dX8_readNumbers_83 (by decide) ?_
        exact ih17 f1282 i1290 ((fm_I g1285 rh0 rfl).trans ((fm_I g1280 rh0 rfl).trans m1172)) ((fm_I g1285 rh0 rfl).trans ((fm_I g1280 rh0 rfl).trans m1178)) (by omega) (by omega) S E hdr _ _ _ hW hF (lv_sub hl [0, 2] rfl)
  have hk1292 : (0 : Int32).toInt = 0 := rfl
  exact L1176 41 f8 0 ((fm_I g11 rh0 rfl).trans m2) e9 (by decide) (by omega) S E hdr _ _ _ hW hF (lv_sub hl [0, 1] rfl)
def ms_X8_nearest_up : List (Nat × Nat) := []
def po_X8_nearest_up (kp : Nat → Nat) (L : List Nat) (f0 : Nat → va_E) (h0 : Nat) (u1 : Int32) : Option Value → (Nat → va_E) → Prop := fun v f => (∃ r : UInt64, v = some (.double r)) ∧ FM kp L ms_X8_nearest_up f0 f
set_option maxHeartbeats 4000000 in
set_option maxRecDepth 100000 in
theorem c_X8_nearest_up (l : Launch) (G : va_G) (cI cJ cZ cD cR cT : ClassId) (kp : Nat → Nat) (L : List Nat) (f0 : Nat → va_E) (hTH : TH cI cJ cZ cD cR cT kp L f0) (sz : Nat) (h0 : Nat) (u1 : Int32) (rh0 : RK kp L h0 8) : Met l yX8_nearest (Cond.code yX8_nearest cX8_nearest 4 (some .double) :: wTab) ({ frames := 1, cells := 0, slots := 0, locals := 40 }) (va_Pc [.ref h0, .int u1, .int 1] (PreW G (tys6 cI cJ cZ cD cR cT) (va_pl L f0) sz)) (QT (po_X8_nearest_up kp L f0 h0 u1) G cI cJ cZ cD cR cT (va_A (va_pl L f0) sz) kp L) 0 0 (va_A (va_pl L f0) sz) := by
  refine metT (by decide) (Nat.le_of_ble_eq_true rfl) hTH ?_
  intro p e s m below meth c A ls E hW hl
  obtain ⟨hx, hb, -, hml, hown, hts, -, -, -⟩ := id E
  have hF : FM kp L ms_X8_nearest_up f0 f0 := FM.rf
  have hl : lv_has ls 4 [(0, .ref h0), (1, .int u1), (2, .int 1)] := hl
  refine lv_iload_n hx hb dX8_nearest_0 rfl (lv_at hl 1 rfl) ?_
  refine lv_istore_n (lv' := [(3, .int u1), (0, .ref h0), (1, .int u1), (2, .int 1)]) hx hb dX8_nearest_1 rfl hl (by decide) rfl (fun ls hl => ?_)
  have L20 : ∀ (n : Nat), ∀ (y19 : Int32) (hm : (2147483648 : Int) - y19.toInt ≤ n) (H : Heap) (locs : List Loc) (ls : Array Slot), WS G cI cJ cZ cD cR cT A kp L f0 s H locs → FM kp L ms_X8_nearest_up f0 f0 → lv_has ls 4 [(3, .int y19), (0, .ref h0), (1, .int u1), (2, .int 1)] → W p l e ({ frames := 1, cells := 0, slots := 0, locals := 40 }) s m ([.ref h0, .int u1, .int 1] : List Value).toArray below meth c H locs 0 0 (MQ below (QT (po_X8_nearest_up kp L f0 h0 u1) G cI cJ cZ cD cR cT A kp L) ([.ref h0, .int u1, .int 1] : List Value).toArray s 0 0 A) (F0 m 2 ls []) := by
    intro n
    induction n with
    | zero =>
      intro y19 hm H locs ls hW hF hl
      have hz := i32_b y19
      exfalso; omega
    | succ n ih =>
      intro y19 hm H locs ls hW hF hl
      have ih2 := ih
      refine lv_iload_n hx hb dX8_nearest_2 rfl (lv_at hl 0 rfl) ?_
      refine q_if_lt (tgt := 39) hx hb dX8_nearest_3 (by decide) rfl (fun c21 => ?_) (fun c21 => ?_)
      · refine lv_ldc2d hx hb hown (hts _ tw_810) dX8_nearest_39 ?_
        exact e_D E hW rfl ⟨⟨_, rfl⟩, hF⟩ dX8_nearest_42
      · refine lv_iload_n hx hb dX8_nearest_6 rfl (lv_at hl 0 rfl) ?_
        refine lv_aload_n hx hb dX8_nearest_7 rfl (lv_at hl 1 rfl) ?_
        refine fg_RX8_29 E hW rh0 dX8_nearest_8 (fun y22 m23 b24 => ?_)
        refine q_icmp_ge (tgt := 39) hx hb dX8_nearest_11 (by decide) rfl rfl (fun c25 => ?_) (fun c25 => ?_)
        · refine lv_ldc2d hx hb hown (hts _ tw_810) dX8_nearest_39 ?_
          exact e_D E hW rfl ⟨⟨_, rfl⟩, hF⟩ dX8_nearest_42
        · refine lv_aload_n hx hb dX8_nearest_14 rfl (lv_at hl 1 rfl) ?_
          refine fg_RX8_15 E hW rh0 dX8_nearest_15 (fun a26 m27 r28 => ?_)
          refine lv_iload_n hx hb dX8_nearest_18 rfl (lv_at hl 0 rfl) ?_
          refine gl_582 E hW r28 ⟨by omega, by omega⟩ dX8_nearest_19 (fun d29 _ => ?_)
          refine lv_dconst0 hx hb dX8_nearest_20 (lv_topd (fun d30 _ => ?_))
          refine u_dcmp_lt (tgt := 32) hx hb dX8_nearest_21 dX8_nearest_22 (by decide) ?_ ?_
          · refine lv_iload_n hx hb dX8_nearest_32 rfl (lv_at hl 0 rfl) ?_
            refine lv_iload_n hx hb dX8_nearest_33 rfl (lv_at hl 3 rfl) ?_
            refine q_iadd (Y := 1) hx hb dX8_nearest_34 rfl rfl (by omega) (fun x32 h33 => ?_)
            refine lv_istore_n (lv' := [(3, .int x32), (0, .ref h0), (1, .int u1), (2, .int 1)]) hx hb dX8_nearest_35 rfl hl (by decide) rfl (fun ls hl => ?_)
            refine lv_goto (tgt := 2) hx hb dX8_nearest_36 (by decide) ?_
            exact ih2 x32  (by omega) _ _ _ hW hF (lv_sub hl [0, 1, 2, 3] rfl)
          · refine lv_aload_n hx hb dX8_nearest_25 rfl (lv_at hl 1 rfl) ?_
            refine fg_RX8_15 E hW rh0 dX8_nearest_26 (fun a34 m35 r36 => ?_)
            obtain rfl : a26 = a34 := (m27).symm.trans m35
            refine lv_iload_n hx hb dX8_nearest_29 rfl (lv_at hl 0 rfl) ?_
            refine gl_582 E hW r28 ⟨by omega, by omega⟩ dX8_nearest_30 (fun d37 _ => ?_)
            exact e_D E hW rfl ⟨⟨_, rfl⟩, hF⟩ dX8_nearest_31
  have hz38 := i32_b u1
  exact L20 8589934592 u1  (by omega) _ _ _ hW hF (lv_sub hl [0, 1, 2, 3] rfl)
def ms_X8_nearest_dn : List (Nat × Nat) := []
def po_X8_nearest_dn (kp : Nat → Nat) (L : List Nat) (f0 : Nat → va_E) (h0 : Nat) (u1 : Int32) : Option Value → (Nat → va_E) → Prop := fun v f => (∃ r : UInt64, v = some (.double r)) ∧ FM kp L ms_X8_nearest_dn f0 f
set_option maxHeartbeats 4000000 in
set_option maxRecDepth 100000 in
theorem c_X8_nearest_dn (l : Launch) (G : va_G) (cI cJ cZ cD cR cT : ClassId) (kp : Nat → Nat) (L : List Nat) (f0 : Nat → va_E) (hTH : TH cI cJ cZ cD cR cT kp L f0) (sz : Nat) (h0 : Nat) (u1 : Int32) (rh0 : RK kp L h0 8) : Met l yX8_nearest (Cond.code yX8_nearest cX8_nearest 4 (some .double) :: wTab) ({ frames := 1, cells := 0, slots := 0, locals := 40 }) (va_Pc [.ref h0, .int u1, .int (-1)] (PreW G (tys6 cI cJ cZ cD cR cT) (va_pl L f0) sz)) (QT (po_X8_nearest_dn kp L f0 h0 u1) G cI cJ cZ cD cR cT (va_A (va_pl L f0) sz) kp L) 0 0 (va_A (va_pl L f0) sz) := by
  refine metT (by decide) (Nat.le_of_ble_eq_true rfl) hTH ?_
  intro p e s m below meth c A ls E hW hl
  obtain ⟨hx, hb, -, hml, hown, hts, -, -, -⟩ := id E
  have hF : FM kp L ms_X8_nearest_dn f0 f0 := FM.rf
  have hl : lv_has ls 4 [(0, .ref h0), (1, .int u1), (2, .int (-1))] := hl
  refine lv_iload_n hx hb dX8_nearest_0 rfl (lv_at hl 1 rfl) ?_
  refine lv_istore_n (lv' := [(3, .int u1), (0, .ref h0), (1, .int u1), (2, .int (-1))]) hx hb dX8_nearest_1 rfl hl (by decide) rfl (fun ls hl => ?_)
  have L20 : ∀ (n : Nat), ∀ (y19 : Int32) (hm : y19.toInt - (-2147483649 : Int) ≤ n) (H : Heap) (locs : List Loc) (ls : Array Slot), WS G cI cJ cZ cD cR cT A kp L f0 s H locs → FM kp L ms_X8_nearest_dn f0 f0 → lv_has ls 4 [(3, .int y19), (0, .ref h0), (1, .int u1), (2, .int (-1))] → W p l e ({ frames := 1, cells := 0, slots := 0, locals := 40 }) s m ([.ref h0, .int u1, .int (-1)] : List Value).toArray below meth c H locs 0 0 (MQ below (QT (po_X8_nearest_dn kp L f0 h0 u1) G cI cJ cZ cD cR cT A kp L) ([.ref h0, .int u1, .int (-1)] : List Value).toArray s 0 0 A) (F0 m 2 ls []) := by
    intro n
    induction n with
    | zero =>
      intro y19 hm H locs ls hW hF hl
      have hz := i32_b y19
      exfalso; omega
    | succ n ih =>
      intro y19 hm H locs ls hW hF hl
      have ih2 := ih
      refine lv_iload_n hx hb dX8_nearest_2 rfl (lv_at hl 0 rfl) ?_
      refine q_if_lt (tgt := 39) hx hb dX8_nearest_3 (by decide) rfl (fun c21 => ?_) (fun c21 => ?_)
      · refine lv_ldc2d hx hb hown (hts _ tw_810) dX8_nearest_39 ?_
        exact e_D E hW rfl ⟨⟨_, rfl⟩, hF⟩ dX8_nearest_42
      · refine lv_iload_n hx hb dX8_nearest_6 rfl (lv_at hl 0 rfl) ?_
        refine lv_aload_n hx hb dX8_nearest_7 rfl (lv_at hl 1 rfl) ?_
        refine fg_RX8_29 E hW rh0 dX8_nearest_8 (fun y22 m23 b24 => ?_)
        refine q_icmp_ge (tgt := 39) hx hb dX8_nearest_11 (by decide) rfl rfl (fun c25 => ?_) (fun c25 => ?_)
        · refine lv_ldc2d hx hb hown (hts _ tw_810) dX8_nearest_39 ?_
          exact e_D E hW rfl ⟨⟨_, rfl⟩, hF⟩ dX8_nearest_42
        · refine lv_aload_n hx hb dX8_nearest_14 rfl (lv_at hl 1 rfl) ?_
          refine fg_RX8_15 E hW rh0 dX8_nearest_15 (fun a26 m27 r28 => ?_)
          refine lv_iload_n hx hb dX8_nearest_18 rfl (lv_at hl 0 rfl) ?_
          refine gl_582 E hW r28 ⟨by omega, by omega⟩ dX8_nearest_19 (fun d29 _ => ?_)
          refine lv_dconst0 hx hb dX8_nearest_20 (lv_topd (fun d30 _ => ?_))
          refine u_dcmp_lt (tgt := 32) hx hb dX8_nearest_21 dX8_nearest_22 (by decide) ?_ ?_
          · refine lv_iload_n hx hb dX8_nearest_32 rfl (lv_at hl 0 rfl) ?_
            refine lv_iload_n hx hb dX8_nearest_33 rfl (lv_at hl 3 rfl) ?_
            refine q_iadd (Y := -1) hx hb dX8_nearest_34 rfl rfl (by omega) (fun x32 h33 => ?_)
            refine lv_istore_n (lv' := [(3, .int x32), (0, .ref h0), (1, .int u1), (2, .int (-1))]) hx hb dX8_nearest_35 rfl hl (by decide) rfl (fun ls hl => ?_)
            refine lv_goto (tgt := 2) hx hb dX8_nearest_36 (by decide) ?_
            exact ih2 x32  (by omega) _ _ _ hW hF (lv_sub hl [0, 1, 2, 3] rfl)
          · refine lv_aload_n hx hb dX8_nearest_25 rfl (lv_at hl 1 rfl) ?_
            refine fg_RX8_15 E hW rh0 dX8_nearest_26 (fun a34 m35 r36 => ?_)
            obtain rfl : a26 = a34 := (m27).symm.trans m35
            refine lv_iload_n hx hb dX8_nearest_29 rfl (lv_at hl 0 rfl) ?_
            refine gl_582 E hW r28 ⟨by omega, by omega⟩ dX8_nearest_30 (fun d37 _ => ?_)
            exact e_D E hW rfl ⟨⟨_, rfl⟩, hF⟩ dX8_nearest_31
  have hz38 := i32_b u1
  exact L20 8589934592 u1  (by omega) _ _ _ hW hF (lv_sub hl [0, 1, 2, 3] rfl)
def ms_X8_numberOf : List (Nat × Nat) := []
def po_X8_numberOf (kp : Nat → Nat) (L : List Nat) (f0 : Nat → va_E) (h0 : Nat) (u1 : Int32) : Option Value → (Nat → va_E) → Prop := fun v f => (∃ r : UInt64, v = some (.double r)) ∧ FM kp L ms_X8_numberOf f0 f
set_option maxHeartbeats 4000000 in
set_option maxRecDepth 100000 in
theorem c_X8_numberOf (l : Launch) (G : va_G) (cI cJ cZ cD cR cT : ClassId) (kp : Nat → Nat) (L : List Nat) (f0 : Nat → va_E) (hTH : TH cI cJ cZ cD cR cT kp L f0) (sz : Nat) (h0 : Nat) (u1 : Int32) (rh0 : RK kp L h0 8) : MetD lw_cs l yX8_numberOf (Cond.code yX8_numberOf cX8_numberOf 6 (some .double) :: wTab) ({ frames := 2, cells := 0, slots := 0, locals := 63 }) (va_Pc [.ref h0, .int u1] (PreW G (tys6 cI cJ cZ cD cR cT) (va_pl L f0) sz)) (QT (po_X8_numberOf kp L f0 h0 u1) G cI cJ cZ cD cR cT (va_A (va_pl L f0) sz) kp L) 0 0 (va_A (va_pl L f0) sz) := by
  refine metTD (by decide) (Nat.le_of_ble_eq_true rfl) hTH ?_
  intro p e s S m below meth c A ls E hdr hW hl
  obtain ⟨hx, hb, -, hml, hown, hts, -, -, -⟩ := id E
  have hF : FM kp L ms_X8_numberOf f0 f0 := FM.rf
  have hl : lv_has ls 6 [(0, .ref h0), (1, .int u1)] := hl
  refine lv_aload_n hx hb dX8_numberOf_0 rfl (lv_at hl 0 rfl) ?_
  refine lv_iload_n hx hb dX8_numberOf_1 rfl (lv_at hl 1 rfl) ?_
  refine lv_iconst (v := (-1)) hx hb dX8_numberOf_2 (by decide) ?_
  refine t_callV (As := [.int u1, .int (-1)]) (rest := []) E hW (c_X8_nearest_dn l G cI cJ cZ cD cR cT kp L f0 hW.2.2.2 _ h0 u1 rh0) rh0 (by decide) rfl wk_X8_nearest tw_834 rfl ⟨Nat.le_of_ble_eq_true rfl, Nat.le_of_ble_eq_true rfl⟩ ⟨rfl, rfl⟩ hl.1 rfl (Nat.le_of_ble_eq_true rfl) dX8_numberOf_3 ⟨Nat.le_of_ble_eq_true rfl, Nat.le_of_ble_eq_true rfl⟩ (fun v1 f2 H locs q3 hW => ?_)
  obtain ⟨⟨d5, rfl⟩, g4⟩ := q3
  have hF := FM.tr hF g4 rfl
  refine lv_dstore_n (lv' := [(2, .double d5), (0, .ref h0), (1, .int u1)]) hx hb dX8_numberOf_6 rfl hl (by decide) rfl (fun ls hl => ?_)
  refine lv_aload_n hx hb dX8_numberOf_7 rfl (lv_at hl 1 rfl) ?_
  refine lv_iload_n hx hb dX8_numberOf_8 rfl (lv_at hl 2 rfl) ?_
  refine lv_iconst (v := 1) hx hb dX8_numberOf_9 (by decide) ?_
  refine t_callV (As := [.int u1, .int 1]) (rest := []) E hW (c_X8_nearest_up l G cI cJ cZ cD cR cT kp L f2 hW.2.2.2 _ h0 u1 rh0) rh0 (by decide) rfl wk_X8_nearest tw_834 rfl ⟨Nat.le_of_ble_eq_true rfl, Nat.le_of_ble_eq_true rfl⟩ ⟨rfl, rfl⟩ hl.1 rfl (Nat.le_of_ble_eq_true rfl) dX8_numberOf_10 ⟨Nat.le_of_ble_eq_true rfl, Nat.le_of_ble_eq_true rfl⟩ (fun v6 f7 H locs q8 hW => ?_)
  obtain ⟨⟨d10, rfl⟩, g9⟩ := q8
  have hF := FM.tr hF g9 rfl
  refine lv_dstore (lv' := [(4, .double d10), (2, .double d5), (0, .ref h0), (1, .int u1)]) hx hb dX8_numberOf_13 hl (by decide) rfl (fun ls hl => ?_)
  refine lv_dload_n hx hb dX8_numberOf_15 rfl (lv_at hl 1 rfl) ?_
  refine lv_dconst0 hx hb dX8_numberOf_16 (lv_topd (fun d11 _ => ?_))
  refine u_dcmp_ge (tgt := 35) hx hb dX8_numberOf_17 dX8_numberOf_18 (by decide) ?_ ?_
  · refine lv_dload hx hb dX8_numberOf_35 (lv_at hl 0 rfl) ?_
    refine lv_dconst0 hx hb dX8_numberOf_37 (lv_topd (fun d13 _ => ?_))
    have J17 : ∀ (d16 : UInt64) (S : State) (E : EV G cI cJ cZ cD cR cT A cX8_numberOf (some .double) 6 yX8_numberOf.cls p S m ([.ref h0, .int u1] : List Value).toArray meth c) (hdr : DR s S) (H : Heap) (locs : List Loc) (ls : Array Slot), WS G cI cJ cZ cD cR cT A kp L f7 S H locs → FM kp L ms_X8_numberOf f0 f7 → lv_has ls 6 [(4, .double d10), (2, .double d5), (0, .ref h0), (1, .int u1)] → W p l e ({ frames := 2, cells := 0, slots := 0, locals := 63 }) S m ([.ref h0, .int u1] : List Value).toArray below meth c H locs 0 0 (MQD lw_cs below (QT (po_X8_numberOf kp L f0 h0 u1) G cI cJ cZ cD cR cT A kp L) ([.ref h0, .int u1] : List Value).toArray s 0 0 A) (F0 m 54 ls [.double d16]) := by
      intro d16 S E hdr H locs ls hW hF hl
      obtain ⟨hx, hb, -, hml, hown, hts, -, -, -⟩ := id E
      exact eD_D E hdr hW rfl ⟨⟨_, rfl⟩, hF⟩ dX8_numberOf_54
    refine u_dcmp_ge (tgt := 46) hx hb dX8_numberOf_38 dX8_numberOf_39 (by decide) ?_ ?_
    · refine lv_dload_n hx hb dX8_numberOf_46 rfl (lv_at hl 1 rfl) ?_
      refine lv_dload hx hb dX8_numberOf_47 (lv_at hl 0 rfl) ?_
      refine dw_dadd E hdr hW dX8_numberOf_49 (fun d19 S E hdr hW => ?_)
      obtain ⟨hx, hb, -, hml, hown, hts, -, -, -⟩ := id E
      refine lv_ldc2d hx hb hown (hts _ tw_813) dX8_numberOf_50 ?_
      refine dw_ddiv E hdr hW dX8_numberOf_53 (fun d20 S E hdr hW => ?_)
      obtain ⟨hx, hb, -, hml, hown, hts, -, -, -⟩ := id E
      exact J17 d20  S E hdr _ _ _ hW hF (lv_sub hl [0, 1, 2, 3] rfl)
    · refine lv_dload_n hx hb dX8_numberOf_42 rfl (lv_at hl 1 rfl) ?_
      refine lv_goto (tgt := 54) hx hb dX8_numberOf_43 (by decide) ?_
      exact J17 d5  S E hdr _ _ _ hW hF (lv_sub hl [0, 1, 2, 3] rfl)
  · refine lv_dload hx hb dX8_numberOf_21 (lv_at hl 0 rfl) ?_
    refine lv_dconst0 hx hb dX8_numberOf_23 (lv_topd (fun d21 _ => ?_))
    have J24 : ∀ (d23 : UInt64) (S : State) (E : EV G cI cJ cZ cD cR cT A cX8_numberOf (some .double) 6 yX8_numberOf.cls p S m ([.ref h0, .int u1] : List Value).toArray meth c) (hdr : DR s S) (H : Heap) (locs : List Loc) (ls : Array Slot), WS G cI cJ cZ cD cR cT A kp L f7 S H locs → FM kp L ms_X8_numberOf f0 f7 → lv_has ls 6 [(4, .double d10), (2, .double d5), (0, .ref h0), (1, .int u1)] → W p l e ({ frames := 2, cells := 0, slots := 0, locals := 63 }) S m ([.ref h0, .int u1] : List Value).toArray below meth c H locs 0 0 (MQD lw_cs below (QT (po_X8_numberOf kp L f0 h0 u1) G cI cJ cZ cD cR cT A kp L) ([.ref h0, .int u1] : List Value).toArray s 0 0 A) (F0 m 34 ls [.double d23]) := by
      intro d23 S E hdr H locs ls hW hF hl
      obtain ⟨hx, hb, -, hml, hown, hts, -, -, -⟩ := id E
      exact eD_D E hdr hW rfl ⟨⟨_, rfl⟩, hF⟩ dX8_numberOf_34
    refine u_dcmp_ge (tgt := 32) hx hb dX8_numberOf_24 dX8_numberOf_25 (by decide) ?_ ?_
    · refine lv_dload hx hb dX8_numberOf_32 (lv_at hl 0 rfl) ?_
      exact J24 d10  S E hdr _ _ _ hW hF (lv_sub hl [0, 1, 2, 3] rfl)
    · refine lv_dconst0 hx hb dX8_numberOf_28 (lv_topd (fun d26 _ => ?_))
      refine lv_goto (tgt := 34) hx hb dX8_numberOf_29 (by decide) ?_
      exact J24 d26  S E hdr _ _ _ hW hF (lv_sub hl [0, 1, 2, 3] rfl)
def ms_X5_readNumber_c : List (Nat × Nat) := [(5, 0), (5, 15)]
def po_X5_readNumber_c (kp : Nat → Nat) (L : List Nat) (f0 : Nat → va_E) (h0 : Nat) (u1 : Int32) (u2 : Int32) : Option Value → (Nat → va_E) → Prop := fun v f => (∃ r : Int32, v = some (.int r) ∧ (r.toInt = 0 ∨ (u1.toInt ≤ r.toInt ∧ r.toInt ≤ u2.toInt))) ∧ FM kp L ms_X5_readNumber_c f0 f ∧ (rdJ f0 f h0)
set_option maxHeartbeats 4000000 in
set_option maxRecDepth 100000 in
theorem c_X5_readNumber_c (l : Launch) (G : va_G) (cI cJ cZ cD cR cT : ClassId) (kp : Nat → Nat) (L : List Nat) (f0 : Nat → va_E) (hTH : TH cI cJ cZ cD cR cT kp L f0) (sz : Nat) (h0 : Nat) (u1 : Int32) (u2 : Int32) (rh0 : RK kp L h0 5) (pu1 : (0 : Int) ≤ u1.toInt ∧ u1.toInt ≤ 1) (pu2 : (3 : Int) ≤ u2.toInt ∧ u2.toInt ≤ 52) (hRI : rdI f0 h0) : Met l yX5_readNumber (Cond.code yX5_readNumber cX5_readNumber 3 (some .int) :: wTab) ({ frames := 2, cells := 0, slots := 0, locals := 60 }) (va_Pc [.ref h0, .int u1, .int u2] (PreW G (tys6 cI cJ cZ cD cR cT) (va_pl L f0) sz)) (QT (po_X5_readNumber_c kp L f0 h0 u1 u2) G cI cJ cZ cD cR cT (va_A (va_pl L f0) sz) kp L) 0 0 (va_A (va_pl L f0) sz) := by
  refine metT (by decide) (Nat.le_of_ble_eq_true rfl) hTH ?_
  intro p e s m below meth c A ls E hW hl
  obtain ⟨hx, hb, -, hml, hown, hts, -, -, -⟩ := id E
  have hF : FM kp L ms_X5_readNumber_c f0 f0 := FM.rf
  have hl : lv_has ls 3 [(0, .ref h0), (1, .int u1), (2, .int u2)] := hl
  obtain ⟨pa, mpa⟩ : ∃ x : Int32, oI (f0 h0) 15 = x := ⟨_, rfl⟩
  obtain ⟨pt, mpt⟩ : ∃ x : Nat, oR (f0 h0) 12 = x := ⟨_, rfl⟩
  have rpt : RK kp L pt 412 := by rw [← mpt]; exact th_ref hTH rh0 (by decide) (by decide) rfl
  obtain ⟨py, mpy⟩ : ∃ x : Int32, aI (f0 pt) pa.toNatClampNeg = x := ⟨_, rfl⟩
  refine lv_aload_n hx hb dX5_readNumber_0 rfl (lv_at hl 0 rfl) ?_
  refine fg_RX5_9 E hW rh0 dX5_readNumber_1 (fun y1 m2 => ?_)
  refine lv_iconst (v := (-1)) hx hb dX5_readNumber_4 (by decide) ?_
  refine q_icmp_ne (Y := -1) (tgt := 49) hx hb dX5_readNumber_5 (by decide) rfl rfl (fun c4 => ?_) (fun c4 => ?_)
  · refine lv_aload_n hx hb dX5_readNumber_49 rfl (lv_at hl 0 rfl) ?_
    have hW0 := hW.2.2.2
    refine t_callV (As := []) (rest := []) E hW (c_X5_fail l G cI cJ cZ cD cR cT kp L f0 hW.2.2.2 _ h0 rh0 ((rj_0 hRI)).1) rh0 (by decide) rfl wk_X5_fail tw_941 rfl ⟨Nat.le_of_ble_eq_true rfl, Nat.le_of_ble_eq_true rfl⟩ ⟨rfl, rfl⟩ hl.1 rfl (Nat.le_of_ble_eq_true rfl) dX5_readNumber_50 ⟨Nat.le_of_ble_eq_true rfl, Nat.le_of_ble_eq_true rfl⟩ (fun v5 f6 H locs q7 hW => ?_)
    obtain ⟨rfl, g8, h9, h10⟩ := q7
    have z11 : rdJ f0 f6 h0 := rj_fm hW0 (rj_0 hRI) g8 rh0 rfl rfl rfl rfl rfl
    have hF := FM.tr hF g8 rfl
    have z12 := rj_call (rj_0 hRI) h9
    refine lv_iconst (v := 0) hx hb dX5_readNumber_53 (by decide) ?_
    exact e_I E hW rfl ⟨⟨_, rfl, (by have hk : (0 : Int32).toInt = 0 := rfl; first | decide | omega)⟩, hF, z12⟩ dX5_readNumber_54
  · refine lv_aload_n hx hb dX5_readNumber_8 rfl (lv_at hl 0 rfl) ?_
    refine fg_RX5_37 E hW rh0 dX5_readNumber_9 (fun a13 m14 r15 => ?_)
    obtain rfl : pt = a13 := (mpt).symm.trans m14
    refine lv_aload_n hx hb dX5_readNumber_12 rfl (lv_at hl 0 rfl) ?_
    refine fg_RX5_60 E hW rh0 dX5_readNumber_13 (fun y16 m17 b18 => ?_)
    obtain rfl : pa = y16 := (mpa).symm.trans m17
    refine gl_412 E hW rpt ⟨by omega, by omega⟩ dX5_readNumber_16 (fun y19 m20 => ?_)
    obtain rfl : py = y19 := (mpy).symm.trans m20
    refine lv_sipush (v := 301) hx hb dX5_readNumber_17 (by decide) ?_
    refine q_icmp_ne (Y := 301) (tgt := 49) hx hb dX5_readNumber_20 (by decide) rfl rfl (fun c22 => ?_) (fun c22 => ?_)
    · refine lv_aload_n hx hb dX5_readNumber_49 rfl (lv_at hl 0 rfl) ?_
      have hW0 := hW.2.2.2
      refine t_callV (As := []) (rest := []) E hW (c_X5_fail l G cI cJ cZ cD cR cT kp L f0 hW.2.2.2 _ h0 rh0 ((rj_0 hRI)).1) rh0 (by decide) rfl wk_X5_fail tw_941 rfl ⟨Nat.le_of_ble_eq_true rfl, Nat.le_of_ble_eq_true rfl⟩ ⟨rfl, rfl⟩ hl.1 rfl (Nat.le_of_ble_eq_true rfl) dX5_readNumber_50 ⟨Nat.le_of_ble_eq_true rfl, Nat.le_of_ble_eq_true rfl⟩ (fun v23 f24 H locs q25 hW => ?_)
      obtain ⟨rfl, g26, h27, h28⟩ := q25
      have z29 : rdJ f0 f24 h0 := rj_fm hW0 (rj_0 hRI) g26 rh0 rfl rfl rfl rfl rfl
      have hF := FM.tr hF g26 rfl
      have z30 := rj_call (rj_0 hRI) h27
      refine lv_iconst (v := 0) hx hb dX5_readNumber_53 (by decide) ?_
      exact e_I E hW rfl ⟨⟨_, rfl, (by have hk : (0 : Int32).toInt = 0 := rfl; first | decide | omega)⟩, hF, z30⟩ dX5_readNumber_54
    · refine lv_aload_n hx hb dX5_readNumber_23 rfl (lv_at hl 0 rfl) ?_
      refine fg_RX5_43 E hW rh0 dX5_readNumber_24 (fun a31 m32 r33 => ?_)
      refine lv_aload_n hx hb dX5_readNumber_27 rfl (lv_at hl 0 rfl) ?_
      refine fg_RX5_60 E hW rh0 dX5_readNumber_28 (fun y34 m35 b36 => ?_)
      obtain rfl : pa = y34 := (m17).symm.trans m35
      refine gl_414 E hW r33 ⟨by omega, by omega⟩ dX5_readNumber_31 (fun y37 m38 => ?_)
      refine lv_iload_n hx hb dX5_readNumber_32 rfl (lv_at hl 1 rfl) ?_
      refine q_icmp_lt (tgt := 49) hx hb dX5_readNumber_33 (by decide) rfl rfl (fun c40 => ?_) (fun c40 => ?_)
      · refine lv_aload_n hx hb dX5_readNumber_49 rfl (lv_at hl 0 rfl) ?_
        have hW0 := hW.2.2.2
        refine t_callV (As := []) (rest := []) E hW (c_X5_fail l G cI cJ cZ cD cR cT kp L f0 hW.2.2.2 _ h0 rh0 ((rj_0 hRI)).1) rh0 (by decide) rfl wk_X5_fail tw_941 rfl ⟨Nat.le_of_ble_eq_true rfl, Nat.le_of_ble_eq_true rfl⟩ ⟨rfl, rfl⟩ hl.1 rfl (Nat.le_of_ble_eq_true rfl) dX5_readNumber_50 ⟨Nat.le_of_ble_eq_true rfl, Nat.le_of_ble_eq_true rfl⟩ (fun v41 f42 H locs q43 hW => ?_)
        obtain ⟨rfl, g44, h45, h46⟩ := q43
        have z47 : rdJ f0 f42 h0 := rj_fm hW0 (rj_0 hRI) g44 rh0 rfl rfl rfl rfl rfl
        have hF := FM.tr hF g44 rfl
        have z48 := rj_call (rj_0 hRI) h45
        refine lv_iconst (v := 0) hx hb dX5_readNumber_53 (by decide) ?_
        exact e_I E hW rfl ⟨⟨_, rfl, (by have hk : (0 : Int32).toInt = 0 := rfl; first | decide | omega)⟩, hF, z48⟩ dX5_readNumber_54
      · refine lv_aload_n hx hb dX5_readNumber_36 rfl (lv_at hl 0 rfl) ?_
        refine fg_RX5_43 E hW rh0 dX5_readNumber_37 (fun a49 m50 r51 => ?_)
        obtain rfl : a31 = a49 := (m32).symm.trans m50
        refine lv_aload_n hx hb dX5_readNumber_40 rfl (lv_at hl 0 rfl) ?_
        refine fg_RX5_60 E hW rh0 dX5_readNumber_41 (fun y52 m53 b54 => ?_)
        obtain rfl : pa = y52 := (m35).symm.trans m53
        refine gl_414 E hW r33 ⟨by omega, by omega⟩ dX5_readNumber_44 (fun y55 m56 => ?_)
        obtain rfl : y37 = y55 := (m38).symm.trans m56
        refine lv_iload_n hx hb dX5_readNumber_45 rfl (lv_at hl 2 rfl) ?_
        refine q_icmp_le (tgt := 55) hx hb dX5_readNumber_46 (by decide) rfl rfl (fun c58 => ?_) (fun c58 => ?_)
        · refine lv_aload_n hx hb dX5_readNumber_55 rfl (lv_at hl 0 rfl) ?_
          refine lv_dup hx hb dX5_readNumber_56 rfl ?_
          refine fg_RX5_60 E hW rh0 dX5_readNumber_57 (fun y59 m60 b61 => ?_)
          obtain rfl : pa = y59 := (m53).symm.trans m60
          refine lv_iconst (v := 1) hx hb dX5_readNumber_60 (by decide) ?_
          refine q_iadd (Y := 1) hx hb dX5_readNumber_61 rfl rfl (by omega) (fun x62 h63 => ?_)
          have lt64 : pa.toInt < (oI (f0 h0) 11).toInt := ri_lt (rj_0 hRI).1 m60 m14 m20 (by omega)
          have le65 := tok_le hW rh0
          have hvtlt64 : x62.toInt ≤ (oI (f0 h0) 11).toInt := by omega
          have hW0 := hW.2.2.2
          refine fp_RX5_60 E hW rh0 (by omega) dX5_readNumber_62 (fun f66 H locs e67 n68 g69 hW => ?_)
          have z70 : rdJ f0 f66 h0 := (rj_at hW0 (rj_0 hRI) g69 rh0 e67 hvtlt64)
          have hF := FM.tr hF g69 rfl
          refine lv_aload_n hx hb dX5_readNumber_65 rfl (lv_at hl 0 rfl) ?_
          refine fg_RX5_43 E hW rh0 dX5_readNumber_66 (fun a71 m72 r73 => ?_)
          obtain rfl : a31 = a71 := (((fm_R g69 rh0 rfl).trans m50)).symm.trans m72
          refine lv_aload_n hx hb dX5_readNumber_69 rfl (lv_at hl 0 rfl) ?_
          refine fg_RX5_60 E hW rh0 dX5_readNumber_70 (fun y74 m75 b76 => ?_)
          obtain rfl : x62 = y74 := (e67).symm.trans m75
          refine lv_iconst (v := 1) hx hb dX5_readNumber_73 (by decide) ?_
          refine q_isub (Y := 1) hx hb dX5_readNumber_74 rfl rfl (by omega) (fun x77 h78 => ?_)
          refine gl_414 E hW r33 ⟨by omega, by omega⟩ dX5_readNumber_75 (fun y79 m80 => ?_)
          have m82 : aI (f66 a31) (x77 : Int32).toNatClampNeg = y37 := by rw [show (x77 : Int32) = pa from Int32.toInt_inj.mp (by omega)]; exact ((congrArg (fun z => aI z (pa : Int32).toNatClampNeg) (fm_A g69 r33 (by decide) rfl)).trans m56)
          obtain rfl : y37 = y79 := (m82).symm.trans m80
          exact e_I E hW rfl ⟨⟨_, rfl, (by first | omega | trivial)⟩, hF, z70⟩ dX5_readNumber_76
        · refine lv_aload_n hx hb dX5_readNumber_49 rfl (lv_at hl 0 rfl) ?_
          have hW0 := hW.2.2.2
          refine t_callV (As := []) (rest := []) E hW (c_X5_fail l G cI cJ cZ cD cR cT kp L f0 hW.2.2.2 _ h0 rh0 ((rj_0 hRI)).1) rh0 (by decide) rfl wk_X5_fail tw_941 rfl ⟨Nat.le_of_ble_eq_true rfl, Nat.le_of_ble_eq_true rfl⟩ ⟨rfl, rfl⟩ hl.1 rfl (Nat.le_of_ble_eq_true rfl) dX5_readNumber_50 ⟨Nat.le_of_ble_eq_true rfl, Nat.le_of_ble_eq_true rfl⟩ (fun v83 f84 H locs q85 hW => ?_)
          obtain ⟨rfl, g86, h87, h88⟩ := q85
          have z89 : rdJ f0 f84 h0 := rj_fm hW0 (rj_0 hRI) g86 rh0 rfl rfl rfl rfl rfl
          have hF := FM.tr hF g86 rfl
          have z90 := rj_call (rj_0 hRI) h87
          refine lv_iconst (v := 0) hx hb dX5_readNumber_53 (by decide) ?_
          exact e_I E hW rfl ⟨⟨_, rfl, (by have hk : (0 : Int32).toInt = 0 := rfl; first | decide | omega)⟩, hF, z90⟩ dX5_readNumber_54
def ms_X5_readClause : List (Nat × Nat) := [(5, 0), (5, 1), (5, 2), (5, 8), (5, 15), (5, 16), (403, 0), (404, 0), (405, 0), (406, 0), (407, 0), (409, 0), (410, 0)]
def po_X5_readClause (kp : Nat → Nat) (L : List Nat) (f0 : Nat → va_E) (h0 : Nat) : Option Value → (Nat → va_E) → Prop := fun v f => v = none ∧ FM kp L ms_X5_readClause f0 f ∧ (rdJ f0 f h0) ∧ (rdC f h0)
set_option maxHeartbeats 4000000 in
set_option maxRecDepth 100000 in
theorem c_X5_readClause (l : Launch) (G : va_G) (cI cJ cZ cD cR cT : ClassId) (kp : Nat → Nat) (L : List Nat) (f0 : Nat → va_E) (hTH : TH cI cJ cZ cD cR cT kp L f0) (sz : Nat) (h0 : Nat) (rh0 : RK kp L h0 5) (hRI : rdI f0 h0) (hRC : rdC f0 h0) : Met l yX5_readClause (Cond.code yX5_readClause cX5_readClause 4 none :: wTab) ({ frames := 22, cells := 0, slots := 0, locals := 530 }) (va_Pc [.ref h0] (PreW G (tys6 cI cJ cZ cD cR cT) (va_pl L f0) sz)) (QT (po_X5_readClause kp L f0 h0) G cI cJ cZ cD cR cT (va_A (va_pl L f0) sz) kp L) 0 0 (va_A (va_pl L f0) sz) := by
  refine metT (by decide) (Nat.le_of_ble_eq_true rfl) hTH ?_
  intro p e s m below meth c A ls E hW hl
  obtain ⟨hx, hb, -, hml, hown, hts, -, -, -⟩ := id E
  have hF : FM kp L ms_X5_readClause f0 f0 := FM.rf
  have hl : lv_has ls 4 [(0, .ref h0)] := hl
  obtain ⟨pa, mpa⟩ : ∃ x : Int32, oI (f0 h0) 15 = x := ⟨_, rfl⟩
  obtain ⟨pt, mpt⟩ : ∃ x : Nat, oR (f0 h0) 12 = x := ⟨_, rfl⟩
  have rpt : RK kp L pt 412 := by rw [← mpt]; exact th_ref hTH rh0 (by decide) (by decide) rfl
  obtain ⟨py, mpy⟩ : ∃ x : Int32, aI (f0 pt) pa.toNatClampNeg = x := ⟨_, rfl⟩
  obtain ⟨pS, mS⟩ : ∃ x : Nat, oR (f0 h0) 6 = x := ⟨_, rfl⟩
  have rS : RK kp L pS 406 := by rw [← mS]; exact th_ref hTH rh0 (by decide) (by decide) rfl
  obtain ⟨pE, mE⟩ : ∃ x : Nat, oR (f0 h0) 7 = x := ⟨_, rfl⟩
  have rE : RK kp L pE 407 := by rw [← mE]; exact th_ref hTH rh0 (by decide) (by decide) rfl
  refine lv_aload_n hx hb dX5_readClause_0 rfl (lv_at hl 0 rfl) ?_
  refine fg_RX5_50 E hW rh0 dX5_readClause_1 (fun y1 m2 b3 => ?_)
  refine lv_bipush (v := 12) hx hb dX5_readClause_4 (by decide) ?_
  refine q_icmp_lt (Y := 12) (tgt := 14) hx hb dX5_readClause_6 (by decide) rfl rfl (fun c4 => ?_) (fun c4 => ?_)
  · refine lv_aload_n hx hb dX5_readClause_14 rfl (lv_at hl 0 rfl) ?_
    refine fg_RX5_50 E hW rh0 dX5_readClause_15 (fun y5 m6 b7 => ?_)
    obtain rfl : y1 = y5 := (m2).symm.trans m6
    refine lv_istore_n (lv' := [(1, .int y1), (0, .ref h0)]) hx hb dX5_readClause_18 rfl hl (by decide) rfl (fun ls hl => ?_)
    refine lv_aload_n hx hb dX5_readClause_19 rfl (lv_at hl 1 rfl) ?_
    refine fg_RX5_37 E hW rh0 dX5_readClause_20 (fun a8 m9 r10 => ?_)
    obtain rfl : pt = a8 := (mpt).symm.trans m9
    refine lv_aload_n hx hb dX5_readClause_23 rfl (lv_at hl 1 rfl) ?_
    refine fg_RX5_60 E hW rh0 dX5_readClause_24 (fun y11 m12 b13 => ?_)
    obtain rfl : pa = y11 := (mpa).symm.trans m12
    refine gl_412 E hW rpt ⟨by omega, by omega⟩ dX5_readClause_27 (fun y14 m15 => ?_)
    obtain rfl : py = y14 := (mpy).symm.trans m15
    refine lv_istore_n (lv' := [(2, .int py), (1, .int y1), (0, .ref h0)]) hx hb dX5_readClause_28 rfl hl (by decide) rfl (fun ls hl => ?_)
    refine lv_iconst (v := 0) hx hb dX5_readClause_29 (by decide) ?_
    refine lv_istore_n (lv' := [(3, .int 0), (2, .int py), (1, .int y1), (0, .ref h0)]) hx hb dX5_readClause_30 rfl hl (by decide) rfl (fun ls hl => ?_)
    refine lv_aload_n hx hb dX5_readClause_31 rfl (lv_at hl 3 rfl) ?_
    refine lv_dup hx hb dX5_readClause_32 rfl ?_
    refine fg_RX5_50 E hW rh0 dX5_readClause_33 (fun y17 m18 b19 => ?_)
    obtain rfl : y1 = y17 := (m6).symm.trans m18
    refine lv_iconst (v := 1) hx hb dX5_readClause_36 (by decide) ?_
    refine q_iadd (Y := 1) hx hb dX5_readClause_37 rfl rfl (by omega) (fun x20 h21 => ?_)
    have hW0 := hW.2.2.2
    refine fp_RX5_50 E hW rh0 (by omega) dX5_readClause_38 (fun f22 H locs e23 n24 g25 hW => ?_)
    have z26 : rdJ f0 f22 h0 := rj_fm hW0 (rj_0 hRI) g25 rh0 rfl rfl rfl rfl rfl
    have hF := FM.tr hF g25 rfl
    refine lv_aload_n hx hb dX5_readClause_41 rfl (lv_at hl 3 rfl) ?_
    refine fg_RX5_15 E hW rh0 dX5_readClause_42 (fun a27 m28 r29 => ?_)
    refine lv_iload_n hx hb dX5_readClause_45 rfl (lv_at hl 2 rfl) ?_
    refine lv_iload_n hx hb dX5_readClause_46 rfl (lv_at hl 1 rfl) ?_
    have hW0 := hW.2.2.2
    refine gs_403 E hW r29 ⟨by omega, by omega⟩ dX5_readClause_47 (fun f30 H locs e31 n32 g33 hW => ?_)
    have m34 : aI (f30 pt) (pa : Int32).toNatClampNeg = py := ((congrArg (fun z => aI z (pa : Int32).toNatClampNeg) (fm_A g33 rpt (by decide) rfl)).trans ((congrArg (fun z => aI z (pa : Int32).toNatClampNeg) (fm_A g25 rpt (by decide) rfl)).trans m15))
    have z35 : rdJ f0 f30 h0 := rj_fm hW0 z26 g33 rh0 rfl rfl rfl rfl rfl
    have hF := FM.tr hF g33 rfl
    refine lv_aload_n hx hb dX5_readClause_48 rfl (lv_at hl 3 rfl) ?_
    refine fg_RX5_19 E hW rh0 dX5_readClause_49 (fun a36 m37 r38 => ?_)
    refine lv_iload_n hx hb dX5_readClause_52 rfl (lv_at hl 2 rfl) ?_
    refine lv_iconst (v := 0) hx hb dX5_readClause_53 (by decide) ?_
    have hW0 := hW.2.2.2
    refine gs_404 E hW r38 ⟨by omega, by omega⟩ (by decide) dX5_readClause_54 (fun f39 H locs e40 n41 g42 hW => ?_)
    have z43 : rdJ f0 f39 h0 := rj_fm hW0 z35 g42 rh0 rfl rfl rfl rfl rfl
    have hF := FM.tr hF g42 rfl
    refine lv_aload_n hx hb dX5_readClause_55 rfl (lv_at hl 3 rfl) ?_
    refine fg_RX5_22 E hW rh0 dX5_readClause_56 (fun a44 m45 r46 => ?_)
    refine lv_iload_n hx hb dX5_readClause_59 rfl (lv_at hl 2 rfl) ?_
    refine lv_iconst (v := 0) hx hb dX5_readClause_60 (by decide) ?_
    have hW0 := hW.2.2.2
    refine gs_405 E hW r46 ⟨by omega, by omega⟩ dX5_readClause_61 (fun f47 H locs e48 n49 g50 hW => ?_)
    have m51 : aI (f47 pt) (pa : Int32).toNatClampNeg = py := ((congrArg (fun z => aI z (pa : Int32).toNatClampNeg) (fm_A g50 rpt (by decide) rfl)).trans ((congrArg (fun z => aI z (pa : Int32).toNatClampNeg) (fm_A g42 rpt (by decide) rfl)).trans m34))
    have m52 : aI (f47 a27) (y1 : Int32).toNatClampNeg = py := ((congrArg (fun z => aI z (y1 : Int32).toNatClampNeg) (fm_A g50 r29 (by decide) rfl)).trans ((congrArg (fun z => aI z (y1 : Int32).toNatClampNeg) (fm_A g42 r29 (by decide) rfl)).trans (show aI (f30 a27) (y1 : Int32).toNatClampNeg = py from by rw [e31]; exact up_s)))
    have z53 : rdJ f0 f47 h0 := rj_fm hW0 z43 g50 rh0 rfl rfl rfl rfl rfl
    have m54 : aI (f47 pS) = aI (f0 pS) := ((congrArg aI (fm_A g50 rS (by decide) rfl)).trans ((congrArg aI (fm_A g42 rS (by decide) rfl)).trans ((congrArg aI (fm_A g33 rS (by decide) rfl)).trans ((congrArg aI (fm_A g25 rS (by decide) rfl)).trans rfl))))
    have m55 : aI (f47 pE) = aI (f0 pE) := ((congrArg aI (fm_A g50 rE (by decide) rfl)).trans ((congrArg aI (fm_A g42 rE (by decide) rfl)).trans ((congrArg aI (fm_A g33 rE (by decide) rfl)).trans ((congrArg aI (fm_A g25 rE (by decide) rfl)).trans rfl))))
    have hF := FM.tr hF g50 rfl
    refine lv_aload_n hx hb dX5_readClause_62 rfl (lv_at hl 3 rfl) ?_
    refine fg_RX5_25 E hW rh0 dX5_readClause_63 (fun a56 m57 r58 => ?_)
    obtain rfl : pS = a56 := (((fm_R g50 rh0 rfl).trans ((fm_R g42 rh0 rfl).trans ((fm_R g33 rh0 rfl).trans ((fm_R g25 rh0 rfl).trans mS))))).symm.trans m57
    refine lv_iload_n hx hb dX5_readClause_66 rfl (lv_at hl 2 rfl) ?_
    refine lv_aload_n hx hb dX5_readClause_67 rfl (lv_at hl 3 rfl) ?_
    refine fg_RX5_57 E hW rh0 dX5_readClause_68 (fun y59 m60 b61 => ?_)
    have hW0 := hW.2.2.2
    refine gs_406 E hW rS ⟨by omega, by omega⟩ dX5_readClause_71 (fun f62 H locs e63 n64 g65 hW => ?_)
    have m66 : aI (f62 a36) (y1 : Int32).toNatClampNeg = 0 := ((congrArg (fun z => aI z (y1 : Int32).toNatClampNeg) (fm_A g65 r38 (by decide) rfl)).trans ((congrArg (fun z => aI z (y1 : Int32).toNatClampNeg) (fm_A g50 r38 (by decide) rfl)).trans (show aI (f39 a36) (y1 : Int32).toNatClampNeg = 0 from by rw [e40]; exact up_s)))
    have z67 : rdJ f0 f62 h0 := rj_fm hW0 z53 g65 rh0 rfl rfl rfl rfl rfl
    have hF := FM.tr hF g65 rfl
    have z68 : aI (f62 pS) = upd (aI (f0 pS)) (y1 : Int32).toNatClampNeg y59 := by rw [e63, m54]
    refine lv_iload_n hx hb dX5_readClause_72 rfl (lv_at hl 1 rfl) ?_
    refine lv_sipush (v := 256) hx hb dX5_readClause_73 (by decide) ?_
    refine q_icmp_ne (Y := 256) (tgt := 125) hx hb dX5_readClause_76 (by decide) rfl rfl (fun c69 => ?_) (fun c69 => ?_)
    · refine lv_iload_n hx hb dX5_readClause_125 rfl (lv_at hl 1 rfl) ?_
      refine lv_sipush (v := 258) hx hb dX5_readClause_126 (by decide) ?_
      refine q_icmp_ne (Y := 258) (tgt := 170) hx hb dX5_readClause_129 (by decide) rfl rfl (fun c70 => ?_) (fun c70 => ?_)
      · refine lv_iload_n hx hb dX5_readClause_170 rfl (lv_at hl 1 rfl) ?_
        refine lv_sipush (v := 260) hx hb dX5_readClause_171 (by decide) ?_
        refine q_icmp_eq (Y := 260) (tgt := 184) hx hb dX5_readClause_174 (by decide) rfl rfl (fun c71 => ?_) (fun c71 => ?_)
        · refine lv_aload_n hx hb dX5_readClause_184 rfl (lv_at hl 3 rfl) ?_
          refine lv_dup hx hb dX5_readClause_185 rfl ?_
          refine fg_RX5_60 E hW rh0 dX5_readClause_186 (fun y72 m73 b74 => ?_)
          obtain rfl : pa = y72 := (((fm_I g65 rh0 rfl).trans ((fm_I g50 rh0 rfl).trans ((fm_I g42 rh0 rfl).trans ((fm_I g33 rh0 rfl).trans ((fm_I g25 rh0 rfl).trans m12)))))).symm.trans m73
          refine lv_iconst (v := 1) hx hb dX5_readClause_189 (by decide) ?_
          refine q_iadd (Y := 1) hx hb dX5_readClause_190 rfl rfl (by omega) (fun x75 h76 => ?_)
          have lt77 : pa.toInt < (oI (f62 h0) 11).toInt := ri_lt z67.1 m73 ((fm_R g65 rh0 rfl).trans ((fm_R g50 rh0 rfl).trans ((fm_R g42 rh0 rfl).trans ((fm_R g33 rh0 rfl).trans ((fm_R g25 rh0 rfl).trans m9))))) ((congrArg (fun z => aI z (pa : Int32).toNatClampNeg) (fm_A g65 rpt (by decide) rfl)).trans m51) (by omega)
          have le78 := tok_le hW rh0
          have hvtlt77 : x75.toInt ≤ (oI (f62 h0) 11).toInt := by omega
          have hW0 := hW.2.2.2
          refine fp_RX5_60 E hW rh0 (by omega) dX5_readClause_191 (fun f79 H locs e80 n81 g82 hW => ?_)
          have m83 : aI (f79 pt) (pa : Int32).toNatClampNeg = py := ((congrArg (fun z => aI z (pa : Int32).toNatClampNeg) (fm_A g82 rpt (by decide) rfl)).trans ((congrArg (fun z => aI z (pa : Int32).toNatClampNeg) (fm_A g65 rpt (by decide) rfl)).trans m51))
          have m84 : aI (f79 a27) (y1 : Int32).toNatClampNeg = py := ((congrArg (fun z => aI z (y1 : Int32).toNatClampNeg) (fm_A g82 r29 (by decide) rfl)).trans ((congrArg (fun z => aI z (y1 : Int32).toNatClampNeg) (fm_A g65 r29 (by decide) rfl)).trans m52))
          have m85 : aI (f79 a44) (y1 : Int32).toNatClampNeg = 0 := ((congrArg (fun z => aI z (y1 : Int32).toNatClampNeg) (fm_A g82 r46 (by decide) rfl)).trans ((congrArg (fun z => aI z (y1 : Int32).toNatClampNeg) (fm_A g65 r46 (by decide) rfl)).trans (show aI (f47 a44) (y1 : Int32).toNatClampNeg = 0 from by rw [e48]; exact up_s)))
          have z86 : rdJ f0 f79 h0 := (rj_at hW0 z67 g82 rh0 e80 hvtlt77)
          have hF := FM.tr hF g82 rfl
          refine lv_aload_n hx hb dX5_readClause_194 rfl (lv_at hl 3 rfl) ?_
          refine lv_iconst (v := 0) hx hb dX5_readClause_195 (by decide) ?_
          have hW0 := hW.2.2.2
          refine t_callV (As := [.int 0]) (rest := []) E hW (c_X5_readSum_0 l G cI cJ cZ cD cR cT kp L f79 hW.2.2.2 _ h0 rh0 (z86).1) rh0 (by decide) rfl wk_X5_readSum tw_953 rfl ⟨Nat.le_of_ble_eq_true rfl, Nat.le_of_ble_eq_true rfl⟩ ⟨rfl, rfl⟩ hl.1 rfl (Nat.le_of_ble_eq_true rfl) dX5_readClause_196 ⟨Nat.le_of_ble_eq_true rfl, Nat.le_of_ble_eq_true rfl⟩ (fun v87 f88 H locs q89 hW => ?_)
          obtain ⟨rfl, g90, h91⟩ := q89
          have m92 : oR (f88 h0) 12 = pt := ((fm_R g90 rh0 rfl).trans ((fm_R g82 rh0 rfl).trans ((fm_R g65 rh0 rfl).trans ((fm_R g50 rh0 rfl).trans ((fm_R g42 rh0 rfl).trans ((fm_R g33 rh0 rfl).trans ((fm_R g25 rh0 rfl).trans m9)))))))
          have m93 : oR (f88 h0) 7 = pE := ((fm_R g90 rh0 rfl).trans ((fm_R g82 rh0 rfl).trans ((fm_R g65 rh0 rfl).trans ((fm_R g50 rh0 rfl).trans ((fm_R g42 rh0 rfl).trans ((fm_R g33 rh0 rfl).trans ((fm_R g25 rh0 rfl).trans mE)))))))
          have m94 : aI (f88 a36) (y1 : Int32).toNatClampNeg = 0 := ((congrArg (fun z => aI z (y1 : Int32).toNatClampNeg) (fm_A g90 r38 (by decide) rfl)).trans ((congrArg (fun z => aI z (y1 : Int32).toNatClampNeg) (fm_A g82 r38 (by decide) rfl)).trans m66))
          have m95 : aI (f88 pS) (y1 : Int32).toNatClampNeg = y59 := ((congrArg (fun z => aI z (y1 : Int32).toNatClampNeg) (fm_A g90 rS (by decide) rfl)).trans ((congrArg (fun z => aI z (y1 : Int32).toNatClampNeg) (fm_A g82 rS (by decide) rfl)).trans (show aI (f62 pS) (y1 : Int32).toNatClampNeg = y59 from by rw [e63]; exact up_s)))
          have hF := FM.tr hF g90 rfl
          have z97 := rj_call z86 h91
          refine lv_iconst (v := 1) hx hb dX5_readClause_199 (by decide) ?_
          refine lv_istore_n (lv' := [(3, .int 1), (2, .int py), (1, .int y1), (0, .ref h0)]) hx hb dX5_readClause_200 rfl hl (by decide) rfl (fun ls hl => ?_)
          refine lv_goto (tgt := 252) hx hb dX5_readClause_201 (by decide) ?_
          refine lv_iload_n hx hb dX5_readClause_252 rfl (lv_at hl 0 rfl) ?_
          refine q_if_eq (X := 1) (tgt := 302) hx hb dX5_readClause_253 (by decide) rfl (fun c => absurd c (by decide)) (fun _ => ?_)
          refine lv_aload_n hx hb dX5_readClause_256 rfl (lv_at hl 3 rfl) ?_
          refine fg_RX5_9 E hW rh0 dX5_readClause_257 (fun y98 m99 => ?_)
          refine lv_iconst (v := (-1)) hx hb dX5_readClause_260 (by decide) ?_
          refine q_icmp_ne (Y := -1) (tgt := 302) hx hb dX5_readClause_261 (by decide) rfl rfl (fun c101 => ?_) (fun c101 => ?_)
          · refine lv_aload_n hx hb dX5_readClause_302 rfl (lv_at hl 3 rfl) ?_
            refine fg_RX5_28 E hW rh0 dX5_readClause_303 (fun a102 m103 r104 => ?_)
            obtain rfl : pE = a102 := (m93).symm.trans m103
            refine lv_iload_n hx hb dX5_readClause_306 rfl (lv_at hl 2 rfl) ?_
            refine lv_aload_n hx hb dX5_readClause_307 rfl (lv_at hl 3 rfl) ?_
            refine fg_RX5_57 E hW rh0 dX5_readClause_308 (fun y105 m106 b107 => ?_)
            have hW0 := hW.2.2.2
            refine gs_407 E hW rE ⟨by omega, by omega⟩ dX5_readClause_311 (fun f108 H locs e109 n110 g111 hW => ?_)
            have m112 : oI (f108 h0) 1 = x20 := ((fm_I g111 rh0 rfl).trans ((fm_I g90 rh0 rfl).trans ((fm_I g82 rh0 rfl).trans ((fm_I g65 rh0 rfl).trans ((fm_I g50 rh0 rfl).trans ((fm_I g42 rh0 rfl).trans ((fm_I g33 rh0 rfl).trans e23)))))))
            have m113 : oR (f108 h0) 3 = a27 := ((fm_R g111 rh0 rfl).trans ((fm_R g90 rh0 rfl).trans ((fm_R g82 rh0 rfl).trans ((fm_R g65 rh0 rfl).trans ((fm_R g50 rh0 rfl).trans ((fm_R g42 rh0 rfl).trans ((fm_R g33 rh0 rfl).trans m28)))))))
            have m114 : aI (f108 pt) (pa : Int32).toNatClampNeg = py := ((congrArg (fun z => aI z (pa : Int32).toNatClampNeg) (fm_A g111 rpt (by decide) rfl)).trans ((congrArg (fun z => aI z (pa : Int32).toNatClampNeg) (fm_A g90 rpt (by decide) rfl)).trans m83))
            have m115 : aI (f108 a27) (y1 : Int32).toNatClampNeg = py := ((congrArg (fun z => aI z (y1 : Int32).toNatClampNeg) (fm_A g111 r29 (by decide) rfl)).trans ((congrArg (fun z => aI z (y1 : Int32).toNatClampNeg) (fm_A g90 r29 (by decide) rfl)).trans m84))
            have m116 : aI (f108 a44) (y1 : Int32).toNatClampNeg = 0 := ((congrArg (fun z => aI z (y1 : Int32).toNatClampNeg) (fm_A g111 r46 (by decide) rfl)).trans ((congrArg (fun z => aI z (y1 : Int32).toNatClampNeg) (fm_A g90 r46 (by decide) rfl)).trans m85))
            have z117 : rdJ f0 f108 h0 := rj_fm hW0 z97 g111 rh0 rfl rfl rfl rfl rfl
            have hF := FM.tr hF g111 rfl
            have z118 : aI (f108 pE) = upd (aI (f0 pE)) (y1 : Int32).toNatClampNeg y105 := by rw [e109, ((congrArg aI (fm_A g90 rE (by decide) rfl)).trans ((congrArg aI (fm_A g82 rE (by decide) rfl)).trans ((congrArg aI (fm_A g65 rE (by decide) rfl)).trans m55)))]
            exact e_V E hW rfl ⟨rfl, hF, z117, (rc_end (c := y1) (w := y59) (w2 := y105) hRC (by rw [((fm_R g111 rh0 rfl).trans ((fm_R g90 rh0 rfl).trans ((fm_R g82 rh0 rfl).trans ((fm_R g65 rh0 rfl).trans m57)))), mS, ((congrArg aI (fm_A g111 rS (by decide) rfl)).trans ((congrArg aI (fm_A g90 rS (by decide) rfl)).trans ((congrArg aI (fm_A g82 rS (by decide) rfl)).trans rfl)))]; exact z68) (by rw [((fm_R g111 rh0 rfl).trans m103), mE]; exact z118) m18 (by omega) (by omega) ((fm_I g111 rh0 rfl).trans m106) z117.2 (by rw [m112]; omega))⟩ dX5_readClause_312
          · refine lv_aload_n hx hb dX5_readClause_264 rfl (lv_at hl 3 rfl) ?_
            refine fg_RX5_37 E hW rh0 dX5_readClause_265 (fun a119 m120 r121 => ?_)
            obtain rfl : pt = a119 := (m92).symm.trans m120
            refine lv_aload_n hx hb dX5_readClause_268 rfl (lv_at hl 3 rfl) ?_
            refine fg_RX5_60 E hW rh0 dX5_readClause_269 (fun y122 m123 b124 => ?_)
            refine gl_412 E hW rpt ⟨by omega, by omega⟩ dX5_readClause_272 (fun y125 m126 => ?_)
            refine lv_sipush (v := 259) hx hb dX5_readClause_273 (by decide) ?_
            refine q_icmp_ne (Y := 259) (tgt := 302) hx hb dX5_readClause_276 (by decide) rfl rfl (fun c128 => ?_) (fun c128 => ?_)
            · refine lv_aload_n hx hb dX5_readClause_302 rfl (lv_at hl 3 rfl) ?_
              refine fg_RX5_28 E hW rh0 dX5_readClause_303 (fun a129 m130 r131 => ?_)
              obtain rfl : pE = a129 := (m93).symm.trans m130
              refine lv_iload_n hx hb dX5_readClause_306 rfl (lv_at hl 2 rfl) ?_
              refine lv_aload_n hx hb dX5_readClause_307 rfl (lv_at hl 3 rfl) ?_
              refine fg_RX5_57 E hW rh0 dX5_readClause_308 (fun y132 m133 b134 => ?_)
              have hW0 := hW.2.2.2
              refine gs_407 E hW rE ⟨by omega, by omega⟩ dX5_readClause_311 (fun f135 H locs e136 n137 g138 hW => ?_)
              have m139 : oI (f135 h0) 1 = x20 := ((fm_I g138 rh0 rfl).trans ((fm_I g90 rh0 rfl).trans ((fm_I g82 rh0 rfl).trans ((fm_I g65 rh0 rfl).trans ((fm_I g50 rh0 rfl).trans ((fm_I g42 rh0 rfl).trans ((fm_I g33 rh0 rfl).trans e23)))))))
              have m140 : oR (f135 h0) 3 = a27 := ((fm_R g138 rh0 rfl).trans ((fm_R g90 rh0 rfl).trans ((fm_R g82 rh0 rfl).trans ((fm_R g65 rh0 rfl).trans ((fm_R g50 rh0 rfl).trans ((fm_R g42 rh0 rfl).trans ((fm_R g33 rh0 rfl).trans m28)))))))
              have m141 : aI (f135 pt) (pa : Int32).toNatClampNeg = py := ((congrArg (fun z => aI z (pa : Int32).toNatClampNeg) (fm_A g138 rpt (by decide) rfl)).trans ((congrArg (fun z => aI z (pa : Int32).toNatClampNeg) (fm_A g90 rpt (by decide) rfl)).trans m83))
              have m142 : aI (f135 a27) (y1 : Int32).toNatClampNeg = py := ((congrArg (fun z => aI z (y1 : Int32).toNatClampNeg) (fm_A g138 r29 (by decide) rfl)).trans ((congrArg (fun z => aI z (y1 : Int32).toNatClampNeg) (fm_A g90 r29 (by decide) rfl)).trans m84))
              have m143 : aI (f135 a44) (y1 : Int32).toNatClampNeg = 0 := ((congrArg (fun z => aI z (y1 : Int32).toNatClampNeg) (fm_A g138 r46 (by decide) rfl)).trans ((congrArg (fun z => aI z (y1 : Int32).toNatClampNeg) (fm_A g90 r46 (by decide) rfl)).trans m85))
              have z144 : rdJ f0 f135 h0 := rj_fm hW0 z97 g138 rh0 rfl rfl rfl rfl rfl
              have hF := FM.tr hF g138 rfl
              have z145 : aI (f135 pE) = upd (aI (f0 pE)) (y1 : Int32).toNatClampNeg y132 := by rw [e136, ((congrArg aI (fm_A g90 rE (by decide) rfl)).trans ((congrArg aI (fm_A g82 rE (by decide) rfl)).trans ((congrArg aI (fm_A g65 rE (by decide) rfl)).trans m55)))]
              exact e_V E hW rfl ⟨rfl, hF, z144, (rc_end (c := y1) (w := y59) (w2 := y132) hRC (by rw [((fm_R g138 rh0 rfl).trans ((fm_R g90 rh0 rfl).trans ((fm_R g82 rh0 rfl).trans ((fm_R g65 rh0 rfl).trans m57)))), mS, ((congrArg aI (fm_A g138 rS (by decide) rfl)).trans ((congrArg aI (fm_A g90 rS (by decide) rfl)).trans ((congrArg aI (fm_A g82 rS (by decide) rfl)).trans rfl)))]; exact z68) (by rw [((fm_R g138 rh0 rfl).trans m130), mE]; exact z145) m18 (by omega) (by omega) ((fm_I g138 rh0 rfl).trans m133) z144.2 (by rw [m139]; omega))⟩ dX5_readClause_312
            · refine lv_aload_n hx hb dX5_readClause_279 rfl (lv_at hl 3 rfl) ?_
              refine lv_dup hx hb dX5_readClause_280 rfl ?_
              refine fg_RX5_60 E hW rh0 dX5_readClause_281 (fun y146 m147 b148 => ?_)
              obtain rfl : y122 = y146 := (m123).symm.trans m147
              refine lv_iconst (v := 1) hx hb dX5_readClause_284 (by decide) ?_
              refine q_iadd (Y := 1) hx hb dX5_readClause_285 rfl rfl (by omega) (fun x149 h150 => ?_)
              have lt151 : y122.toInt < (oI (f88 h0) 11).toInt := ri_lt z97.1 m147 m120 m126 (by omega)
              have le152 := tok_le hW rh0
              have hvtlt151 : x149.toInt ≤ (oI (f88 h0) 11).toInt := by omega
              have hW0 := hW.2.2.2
              refine fp_RX5_60 E hW rh0 (by omega) dX5_readClause_286 (fun f153 H locs e154 n155 g156 hW => ?_)
              have m157 : oI (f153 h0) 1 = x20 := ((fm_I g156 rh0 rfl).trans ((fm_I g90 rh0 rfl).trans ((fm_I g82 rh0 rfl).trans ((fm_I g65 rh0 rfl).trans ((fm_I g50 rh0 rfl).trans ((fm_I g42 rh0 rfl).trans ((fm_I g33 rh0 rfl).trans e23)))))))
              have m158 : oR (f153 h0) 3 = a27 := ((fm_R g156 rh0 rfl).trans ((fm_R g90 rh0 rfl).trans ((fm_R g82 rh0 rfl).trans ((fm_R g65 rh0 rfl).trans ((fm_R g50 rh0 rfl).trans ((fm_R g42 rh0 rfl).trans ((fm_R g33 rh0 rfl).trans m28)))))))
              have m159 : aI (f153 pt) (pa : Int32).toNatClampNeg = py := ((congrArg (fun z => aI z (pa : Int32).toNatClampNeg) (fm_A g156 rpt (by decide) rfl)).trans ((congrArg (fun z => aI z (pa : Int32).toNatClampNeg) (fm_A g90 rpt (by decide) rfl)).trans m83))
              have m160 : aI (f153 a27) (y1 : Int32).toNatClampNeg = py := ((congrArg (fun z => aI z (y1 : Int32).toNatClampNeg) (fm_A g156 r29 (by decide) rfl)).trans ((congrArg (fun z => aI z (y1 : Int32).toNatClampNeg) (fm_A g90 r29 (by decide) rfl)).trans m84))
              have m161 : aI (f153 a44) (y1 : Int32).toNatClampNeg = 0 := ((congrArg (fun z => aI z (y1 : Int32).toNatClampNeg) (fm_A g156 r46 (by decide) rfl)).trans ((congrArg (fun z => aI z (y1 : Int32).toNatClampNeg) (fm_A g90 r46 (by decide) rfl)).trans m85))
              have z162 : rdJ f0 f153 h0 := (rj_at hW0 z97 g156 rh0 e154 hvtlt151)
              have m163 : aI (f153 pE) = aI (f0 pE) := ((congrArg aI (fm_A g156 rE (by decide) rfl)).trans ((congrArg aI (fm_A g90 rE (by decide) rfl)).trans ((congrArg aI (fm_A g82 rE (by decide) rfl)).trans ((congrArg aI (fm_A g65 rE (by decide) rfl)).trans m55))))
              have hF := FM.tr hF g156 rfl
              refine lv_aload_n hx hb dX5_readClause_289 rfl (lv_at hl 3 rfl) ?_
              refine lv_iconst (v := 0) hx hb dX5_readClause_290 (by decide) ?_
              have hW0 := hW.2.2.2
              refine t_callV (As := [.int 0]) (rest := []) E hW (c_X5_readTest_0 l G cI cJ cZ cD cR cT kp L f153 hW.2.2.2 _ h0 rh0 (z162).1) rh0 (by decide) rfl wk_X5_readTest tw_973 rfl ⟨Nat.le_of_ble_eq_true rfl, Nat.le_of_ble_eq_true rfl⟩ ⟨rfl, rfl⟩ hl.1 rfl (Nat.le_of_ble_eq_true rfl) dX5_readClause_291 ⟨Nat.le_of_ble_eq_true rfl, Nat.le_of_ble_eq_true rfl⟩ (fun v164 f165 H locs q166 hW => ?_)
              obtain ⟨rfl, g167, h168⟩ := q166
              have m169 : oR (f165 h0) 4 = a36 := ((fm_R g167 rh0 rfl).trans ((fm_R g156 rh0 rfl).trans ((fm_R g90 rh0 rfl).trans ((fm_R g82 rh0 rfl).trans ((fm_R g65 rh0 rfl).trans ((fm_R g50 rh0 rfl).trans ((fm_R g42 rh0 rfl).trans m37)))))))
              have m170 : aI (f165 a36) (y1 : Int32).toNatClampNeg = 0 := ((congrArg (fun z => aI z (y1 : Int32).toNatClampNeg) (fm_A g167 r38 (by decide) rfl)).trans ((congrArg (fun z => aI z (y1 : Int32).toNatClampNeg) (fm_A g156 r38 (by decide) rfl)).trans m94))
              have m171 : aI (f165 pS) (y1 : Int32).toNatClampNeg = y59 := ((congrArg (fun z => aI z (y1 : Int32).toNatClampNeg) (fm_A g167 rS (by decide) rfl)).trans ((congrArg (fun z => aI z (y1 : Int32).toNatClampNeg) (fm_A g156 rS (by decide) rfl)).trans m95))
              have m172 : aI (f165 pt) (y122 : Int32).toNatClampNeg = y125 := ((congrArg (fun z => aI z (y122 : Int32).toNatClampNeg) (fm_A g167 rpt (by decide) rfl)).trans ((congrArg (fun z => aI z (y122 : Int32).toNatClampNeg) (fm_A g156 rpt (by decide) rfl)).trans m126))
              have m174 : aI (f165 pS) = aI (f62 pS) := ((congrArg aI (fm_A g167 rS (by decide) rfl)).trans ((congrArg aI (fm_A g156 rS (by decide) rfl)).trans ((congrArg aI (fm_A g90 rS (by decide) rfl)).trans ((congrArg aI (fm_A g82 rS (by decide) rfl)).trans rfl))))
              have hF := FM.tr hF g167 rfl
              have z175 := rj_call z162 h168
              refine lv_aload_n hx hb dX5_readClause_294 rfl (lv_at hl 3 rfl) ?_
              refine lv_sipush (v := 259) hx hb dX5_readClause_295 (by decide) ?_
              refine lv_iconst (v := 0) hx hb dX5_readClause_298 (by decide) ?_
              have hW0 := hW.2.2.2
              refine t_callV (As := [.int 259, .int 0]) (rest := []) E hW (c_X5_write l G cI cJ cZ cD cR cT kp L f165 hW.2.2.2 _ h0 259 0 rh0 (by decide) (z175).1) rh0 (by decide) rfl wk_X5_write tw_969 rfl ⟨Nat.le_of_ble_eq_true rfl, Nat.le_of_ble_eq_true rfl⟩ ⟨rfl, rfl⟩ hl.1 rfl (Nat.le_of_ble_eq_true rfl) dX5_readClause_299 ⟨Nat.le_of_ble_eq_true rfl, Nat.le_of_ble_eq_true rfl⟩ (fun v176 f177 H locs q178 hW => ?_)
              obtain ⟨rfl, g179, h180⟩ := q178
              have m181 : oR (f177 h0) 5 = a44 := ((fm_R g179 rh0 rfl).trans ((fm_R g167 rh0 rfl).trans ((fm_R g156 rh0 rfl).trans ((fm_R g90 rh0 rfl).trans ((fm_R g82 rh0 rfl).trans ((fm_R g65 rh0 rfl).trans ((fm_R g50 rh0 rfl).trans m45)))))))
              have m182 : aI (f177 pt) (pa : Int32).toNatClampNeg = py := ((congrArg (fun z => aI z (pa : Int32).toNatClampNeg) (fm_A g179 rpt (by decide) rfl)).trans ((congrArg (fun z => aI z (pa : Int32).toNatClampNeg) (fm_A g167 rpt (by decide) rfl)).trans m159))
              have m183 : aI (f177 a27) (y1 : Int32).toNatClampNeg = py := ((congrArg (fun z => aI z (y1 : Int32).toNatClampNeg) (fm_A g179 r29 (by decide) rfl)).trans ((congrArg (fun z => aI z (y1 : Int32).toNatClampNeg) (fm_A g167 r29 (by decide) rfl)).trans m160))
              have m184 : aI (f177 a44) (y1 : Int32).toNatClampNeg = 0 := ((congrArg (fun z => aI z (y1 : Int32).toNatClampNeg) (fm_A g179 r46 (by decide) rfl)).trans ((congrArg (fun z => aI z (y1 : Int32).toNatClampNeg) (fm_A g167 r46 (by decide) rfl)).trans m161))
              have hF := FM.tr hF g179 rfl
              have z186 := rj_call z175 h180
              refine lv_aload_n hx hb dX5_readClause_302 rfl (lv_at hl 3 rfl) ?_
              refine fg_RX5_28 E hW rh0 dX5_readClause_303 (fun a187 m188 r189 => ?_)
              obtain rfl : pE = a187 := (((fm_R g179 rh0 rfl).trans ((fm_R g167 rh0 rfl).trans ((fm_R g156 rh0 rfl).trans m93)))).symm.trans m188
              refine lv_iload_n hx hb dX5_readClause_306 rfl (lv_at hl 2 rfl) ?_
              refine lv_aload_n hx hb dX5_readClause_307 rfl (lv_at hl 3 rfl) ?_
              refine fg_RX5_57 E hW rh0 dX5_readClause_308 (fun y190 m191 b192 => ?_)
              have hW0 := hW.2.2.2
              refine gs_407 E hW rE ⟨by omega, by omega⟩ dX5_readClause_311 (fun f193 H locs e194 n195 g196 hW => ?_)
              have m197 : oR (f193 h0) 6 = pS := ((fm_R g196 rh0 rfl).trans ((fm_R g179 rh0 rfl).trans ((fm_R g167 rh0 rfl).trans ((fm_R g156 rh0 rfl).trans ((fm_R g90 rh0 rfl).trans ((fm_R g82 rh0 rfl).trans ((fm_R g65 rh0 rfl).trans m57)))))))
              have m198 : aI (f193 a36) (y1 : Int32).toNatClampNeg = 0 := ((congrArg (fun z => aI z (y1 : Int32).toNatClampNeg) (fm_A g196 r38 (by decide) rfl)).trans ((congrArg (fun z => aI z (y1 : Int32).toNatClampNeg) (fm_A g179 r38 (by decide) rfl)).trans m170))
              have m199 : aI (f193 pS) (y1 : Int32).toNatClampNeg = y59 := ((congrArg (fun z => aI z (y1 : Int32).toNatClampNeg) (fm_A g196 rS (by decide) rfl)).trans ((congrArg (fun z => aI z (y1 : Int32).toNatClampNeg) (fm_A g179 rS (by decide) rfl)).trans m171))
              have m200 : aI (f193 pt) (y122 : Int32).toNatClampNeg = y125 := ((congrArg (fun z => aI z (y122 : Int32).toNatClampNeg) (fm_A g196 rpt (by decide) rfl)).trans ((congrArg (fun z => aI z (y122 : Int32).toNatClampNeg) (fm_A g179 rpt (by decide) rfl)).trans m172))
              have z201 : rdJ f0 f193 h0 := rj_fm hW0 z186 g196 rh0 rfl rfl rfl rfl rfl
              have hF := FM.tr hF g196 rfl
              have z202 : aI (f193 pE) = upd (aI (f0 pE)) (y1 : Int32).toNatClampNeg y190 := by rw [e194, ((congrArg aI (fm_A g179 rE (by decide) rfl)).trans ((congrArg aI (fm_A g167 rE (by decide) rfl)).trans m163))]
              exact e_V E hW rfl ⟨rfl, hF, z201, (rc_end (c := y1) (w := y59) (w2 := y190) hRC (by rw [m197, mS, ((congrArg aI (fm_A g196 rS (by decide) rfl)).trans ((congrArg aI (fm_A g179 rS (by decide) rfl)).trans m174))]; exact z68) (by rw [((fm_R g196 rh0 rfl).trans m188), mE]; exact z202) m18 (by omega) (by omega) ((fm_I g196 rh0 rfl).trans m191) z201.2 (by rw [((fm_I g196 rh0 rfl).trans ((fm_I g179 rh0 rfl).trans ((fm_I g167 rh0 rfl).trans m157)))]; omega))⟩ dX5_readClause_312
        · refine lv_iload_n hx hb dX5_readClause_177 rfl (lv_at hl 1 rfl) ?_
          refine lv_sipush (v := 261) hx hb dX5_readClause_178 (by decide) ?_
          refine q_icmp_ne (Y := 261) (tgt := 204) hx hb dX5_readClause_181 (by decide) rfl rfl (fun c203 => ?_) (fun c203 => ?_)
          · refine lv_iload_n hx hb dX5_readClause_204 rfl (lv_at hl 1 rfl) ?_
            refine lv_sipush (v := 262) hx hb dX5_readClause_205 (by decide) ?_
            refine q_icmp_eq (Y := 262) (tgt := 225) hx hb dX5_readClause_208 (by decide) rfl rfl (fun c204 => ?_) (fun c204 => ?_)
            · refine lv_aload_n hx hb dX5_readClause_225 rfl (lv_at hl 3 rfl) ?_
              refine lv_dup hx hb dX5_readClause_226 rfl ?_
              refine fg_RX5_60 E hW rh0 dX5_readClause_227 (fun y205 m206 b207 => ?_)
              obtain rfl : pa = y205 := (((fm_I g65 rh0 rfl).trans ((fm_I g50 rh0 rfl).trans ((fm_I g42 rh0 rfl).trans ((fm_I g33 rh0 rfl).trans ((fm_I g25 rh0 rfl).trans m12)))))).symm.trans m206
              refine lv_iconst (v := 1) hx hb dX5_readClause_230 (by decide) ?_
              refine q_iadd (Y := 1) hx hb dX5_readClause_231 rfl rfl (by omega) (fun x208 h209 => ?_)
              have lt210 : pa.toInt < (oI (f62 h0) 11).toInt := ri_lt z67.1 m206 ((fm_R g65 rh0 rfl).trans ((fm_R g50 rh0 rfl).trans ((fm_R g42 rh0 rfl).trans ((fm_R g33 rh0 rfl).trans ((fm_R g25 rh0 rfl).trans m9))))) ((congrArg (fun z => aI z (pa : Int32).toNatClampNeg) (fm_A g65 rpt (by decide) rfl)).trans m51) (by omega)
              have le211 := tok_le hW rh0
              have hvtlt210 : x208.toInt ≤ (oI (f62 h0) 11).toInt := by omega
              have hW0 := hW.2.2.2
              refine fp_RX5_60 E hW rh0 (by omega) dX5_readClause_232 (fun f212 H locs e213 n214 g215 hW => ?_)
              have m216 : aI (f212 pt) (pa : Int32).toNatClampNeg = py := ((congrArg (fun z => aI z (pa : Int32).toNatClampNeg) (fm_A g215 rpt (by decide) rfl)).trans ((congrArg (fun z => aI z (pa : Int32).toNatClampNeg) (fm_A g65 rpt (by decide) rfl)).trans m51))
              have m217 : aI (f212 a27) (y1 : Int32).toNatClampNeg = py := ((congrArg (fun z => aI z (y1 : Int32).toNatClampNeg) (fm_A g215 r29 (by decide) rfl)).trans ((congrArg (fun z => aI z (y1 : Int32).toNatClampNeg) (fm_A g65 r29 (by decide) rfl)).trans m52))
              have m218 : aI (f212 a44) (y1 : Int32).toNatClampNeg = 0 := ((congrArg (fun z => aI z (y1 : Int32).toNatClampNeg) (fm_A g215 r46 (by decide) rfl)).trans ((congrArg (fun z => aI z (y1 : Int32).toNatClampNeg) (fm_A g65 r46 (by decide) rfl)).trans (show aI (f47 a44) (y1 : Int32).toNatClampNeg = 0 from by rw [e48]; exact up_s)))
              have z219 : rdJ f0 f212 h0 := (rj_at hW0 z67 g215 rh0 e213 hvtlt210)
              have hF := FM.tr hF g215 rfl
              refine lv_aload_n hx hb dX5_readClause_235 rfl (lv_at hl 3 rfl) ?_
              refine lv_sipush (v := 301) hx hb dX5_readClause_236 (by decide) ?_
              refine lv_iconst (v := 0) hx hb dX5_readClause_239 (by decide) ?_
              have hW0 := hW.2.2.2
              refine t_callV (As := [.int 301, .int 0]) (rest := []) E hW (c_X5_write l G cI cJ cZ cD cR cT kp L f212 hW.2.2.2 _ h0 301 0 rh0 (by decide) (z219).1) rh0 (by decide) rfl wk_X5_write tw_969 rfl ⟨Nat.le_of_ble_eq_true rfl, Nat.le_of_ble_eq_true rfl⟩ ⟨rfl, rfl⟩ hl.1 rfl (Nat.le_of_ble_eq_true rfl) dX5_readClause_240 ⟨Nat.le_of_ble_eq_true rfl, Nat.le_of_ble_eq_true rfl⟩ (fun v220 f221 H locs q222 hW => ?_)
              obtain ⟨rfl, g223, h224⟩ := q222
              have m225 : oR (f221 h0) 12 = pt := ((fm_R g223 rh0 rfl).trans ((fm_R g215 rh0 rfl).trans ((fm_R g65 rh0 rfl).trans ((fm_R g50 rh0 rfl).trans ((fm_R g42 rh0 rfl).trans ((fm_R g33 rh0 rfl).trans ((fm_R g25 rh0 rfl).trans m9)))))))
              have m226 : oR (f221 h0) 7 = pE := ((fm_R g223 rh0 rfl).trans ((fm_R g215 rh0 rfl).trans ((fm_R g65 rh0 rfl).trans ((fm_R g50 rh0 rfl).trans ((fm_R g42 rh0 rfl).trans ((fm_R g33 rh0 rfl).trans ((fm_R g25 rh0 rfl).trans mE)))))))
              have m227 : aI (f221 a36) (y1 : Int32).toNatClampNeg = 0 := ((congrArg (fun z => aI z (y1 : Int32).toNatClampNeg) (fm_A g223 r38 (by decide) rfl)).trans ((congrArg (fun z => aI z (y1 : Int32).toNatClampNeg) (fm_A g215 r38 (by decide) rfl)).trans m66))
              have m228 : aI (f221 pS) (y1 : Int32).toNatClampNeg = y59 := ((congrArg (fun z => aI z (y1 : Int32).toNatClampNeg) (fm_A g223 rS (by decide) rfl)).trans ((congrArg (fun z => aI z (y1 : Int32).toNatClampNeg) (fm_A g215 rS (by decide) rfl)).trans (show aI (f62 pS) (y1 : Int32).toNatClampNeg = y59 from by rw [e63]; exact up_s)))
              have hF := FM.tr hF g223 rfl
              have z230 := rj_call z219 h224
              refine lv_iconst (v := 1) hx hb dX5_readClause_243 (by decide) ?_
              refine lv_istore_n (lv' := [(3, .int 1), (2, .int py), (1, .int y1), (0, .ref h0)]) hx hb dX5_readClause_244 rfl hl (by decide) rfl (fun ls hl => ?_)
              refine lv_goto (tgt := 252) hx hb dX5_readClause_245 (by decide) ?_
              refine lv_iload_n hx hb dX5_readClause_252 rfl (lv_at hl 0 rfl) ?_
              refine q_if_eq (X := 1) (tgt := 302) hx hb dX5_readClause_253 (by decide) rfl (fun c => absurd c (by decide)) (fun _ => ?_)
              refine lv_aload_n hx hb dX5_readClause_256 rfl (lv_at hl 3 rfl) ?_
              refine fg_RX5_9 E hW rh0 dX5_readClause_257 (fun y231 m232 => ?_)
              refine lv_iconst (v := (-1)) hx hb dX5_readClause_260 (by decide) ?_
              refine q_icmp_ne (Y := -1) (tgt := 302) hx hb dX5_readClause_261 (by decide) rfl rfl (fun c234 => ?_) (fun c234 => ?_)
              · refine lv_aload_n hx hb dX5_readClause_302 rfl (lv_at hl 3 rfl) ?_
                refine fg_RX5_28 E hW rh0 dX5_readClause_303 (fun a235 m236 r237 => ?_)
                obtain rfl : pE = a235 := (m226).symm.trans m236
                refine lv_iload_n hx hb dX5_readClause_306 rfl (lv_at hl 2 rfl) ?_
                refine lv_aload_n hx hb dX5_readClause_307 rfl (lv_at hl 3 rfl) ?_
                refine fg_RX5_57 E hW rh0 dX5_readClause_308 (fun y238 m239 b240 => ?_)
                have hW0 := hW.2.2.2
                refine gs_407 E hW rE ⟨by omega, by omega⟩ dX5_readClause_311 (fun f241 H locs e242 n243 g244 hW => ?_)
                have m245 : oI (f241 h0) 1 = x20 := ((fm_I g244 rh0 rfl).trans ((fm_I g223 rh0 rfl).trans ((fm_I g215 rh0 rfl).trans ((fm_I g65 rh0 rfl).trans ((fm_I g50 rh0 rfl).trans ((fm_I g42 rh0 rfl).trans ((fm_I g33 rh0 rfl).trans e23)))))))
                have m246 : oR (f241 h0) 3 = a27 := ((fm_R g244 rh0 rfl).trans ((fm_R g223 rh0 rfl).trans ((fm_R g215 rh0 rfl).trans ((fm_R g65 rh0 rfl).trans ((fm_R g50 rh0 rfl).trans ((fm_R g42 rh0 rfl).trans ((fm_R g33 rh0 rfl).trans m28)))))))
                have m247 : aI (f241 pt) (pa : Int32).toNatClampNeg = py := ((congrArg (fun z => aI z (pa : Int32).toNatClampNeg) (fm_A g244 rpt (by decide) rfl)).trans ((congrArg (fun z => aI z (pa : Int32).toNatClampNeg) (fm_A g223 rpt (by decide) rfl)).trans m216))
                have m248 : aI (f241 a27) (y1 : Int32).toNatClampNeg = py := ((congrArg (fun z => aI z (y1 : Int32).toNatClampNeg) (fm_A g244 r29 (by decide) rfl)).trans ((congrArg (fun z => aI z (y1 : Int32).toNatClampNeg) (fm_A g223 r29 (by decide) rfl)).trans m217))
                have m249 : aI (f241 a44) (y1 : Int32).toNatClampNeg = 0 := ((congrArg (fun z => aI z (y1 : Int32).toNatClampNeg) (fm_A g244 r46 (by decide) rfl)).trans ((congrArg (fun z => aI z (y1 : Int32).toNatClampNeg) (fm_A g223 r46 (by decide) rfl)).trans m218))
                have z250 : rdJ f0 f241 h0 := rj_fm hW0 z230 g244 rh0 rfl rfl rfl rfl rfl
                have hF := FM.tr hF g244 rfl
                have z251 : aI (f241 pE) = upd (aI (f0 pE)) (y1 : Int32).toNatClampNeg y238 := by rw [e242, ((congrArg aI (fm_A g223 rE (by decide) rfl)).trans ((congrArg aI (fm_A g215 rE (by decide) rfl)).trans ((congrArg aI (fm_A g65 rE (by decide) rfl)).trans m55)))]
                exact e_V E hW rfl ⟨rfl, hF, z250, (rc_end (c := y1) (w := y59) (w2 := y238) hRC (by rw [((fm_R g244 rh0 rfl).trans ((fm_R g223 rh0 rfl).trans ((fm_R g215 rh0 rfl).trans ((fm_R g65 rh0 rfl).trans m57)))), mS, ((congrArg aI (fm_A g244 rS (by decide) rfl)).trans ((congrArg aI (fm_A g223 rS (by decide) rfl)).trans ((congrArg aI (fm_A g215 rS (by decide) rfl)).trans rfl)))]; exact z68) (by rw [((fm_R g244 rh0 rfl).trans m236), mE]; exact z251) m18 (by omega) (by omega) ((fm_I g244 rh0 rfl).trans m239) z250.2 (by rw [m245]; omega))⟩ dX5_readClause_312
              · refine lv_aload_n hx hb dX5_readClause_264 rfl (lv_at hl 3 rfl) ?_
                refine fg_RX5_37 E hW rh0 dX5_readClause_265 (fun a252 m253 r254 => ?_)
                obtain rfl : pt = a252 := (m225).symm.trans m253
                refine lv_aload_n hx hb dX5_readClause_268 rfl (lv_at hl 3 rfl) ?_
                refine fg_RX5_60 E hW rh0 dX5_readClause_269 (fun y255 m256 b257 => ?_)
                obtain rfl : x208 = y255 := (((fm_I g223 rh0 rfl).trans e213)).symm.trans m256
                refine gl_412 E hW rpt ⟨by omega, by omega⟩ dX5_readClause_272 (fun y258 m259 => ?_)
                refine lv_sipush (v := 259) hx hb dX5_readClause_273 (by decide) ?_
                refine q_icmp_ne (Y := 259) (tgt := 302) hx hb dX5_readClause_276 (by decide) rfl rfl (fun c261 => ?_) (fun c261 => ?_)
                · refine lv_aload_n hx hb dX5_readClause_302 rfl (lv_at hl 3 rfl) ?_
                  refine fg_RX5_28 E hW rh0 dX5_readClause_303 (fun a262 m263 r264 => ?_)
                  obtain rfl : pE = a262 := (m226).symm.trans m263
                  refine lv_iload_n hx hb dX5_readClause_306 rfl (lv_at hl 2 rfl) ?_
                  refine lv_aload_n hx hb dX5_readClause_307 rfl (lv_at hl 3 rfl) ?_
                  refine fg_RX5_57 E hW rh0 dX5_readClause_308 (fun y265 m266 b267 => ?_)
                  have hW0 := hW.2.2.2
                  refine gs_407 E hW rE ⟨by omega, by omega⟩ dX5_readClause_311 (fun f268 H locs e269 n270 g271 hW => ?_)
                  have m272 : oI (f268 h0) 1 = x20 := ((fm_I g271 rh0 rfl).trans ((fm_I g223 rh0 rfl).trans ((fm_I g215 rh0 rfl).trans ((fm_I g65 rh0 rfl).trans ((fm_I g50 rh0 rfl).trans ((fm_I g42 rh0 rfl).trans ((fm_I g33 rh0 rfl).trans e23)))))))
                  have m273 : oR (f268 h0) 3 = a27 := ((fm_R g271 rh0 rfl).trans ((fm_R g223 rh0 rfl).trans ((fm_R g215 rh0 rfl).trans ((fm_R g65 rh0 rfl).trans ((fm_R g50 rh0 rfl).trans ((fm_R g42 rh0 rfl).trans ((fm_R g33 rh0 rfl).trans m28)))))))
                  have m274 : aI (f268 pt) (pa : Int32).toNatClampNeg = py := ((congrArg (fun z => aI z (pa : Int32).toNatClampNeg) (fm_A g271 rpt (by decide) rfl)).trans ((congrArg (fun z => aI z (pa : Int32).toNatClampNeg) (fm_A g223 rpt (by decide) rfl)).trans m216))
                  have m275 : aI (f268 a27) (y1 : Int32).toNatClampNeg = py := ((congrArg (fun z => aI z (y1 : Int32).toNatClampNeg) (fm_A g271 r29 (by decide) rfl)).trans ((congrArg (fun z => aI z (y1 : Int32).toNatClampNeg) (fm_A g223 r29 (by decide) rfl)).trans m217))
                  have m276 : aI (f268 a44) (y1 : Int32).toNatClampNeg = 0 := ((congrArg (fun z => aI z (y1 : Int32).toNatClampNeg) (fm_A g271 r46 (by decide) rfl)).trans ((congrArg (fun z => aI z (y1 : Int32).toNatClampNeg) (fm_A g223 r46 (by decide) rfl)).trans m218))
                  have z277 : rdJ f0 f268 h0 := rj_fm hW0 z230 g271 rh0 rfl rfl rfl rfl rfl
                  have hF := FM.tr hF g271 rfl
                  have z278 : aI (f268 pE) = upd (aI (f0 pE)) (y1 : Int32).toNatClampNeg y265 := by rw [e269, ((congrArg aI (fm_A g223 rE (by decide) rfl)).trans ((congrArg aI (fm_A g215 rE (by decide) rfl)).trans ((congrArg aI (fm_A g65 rE (by decide) rfl)).trans m55)))]
                  exact e_V E hW rfl ⟨rfl, hF, z277, (rc_end (c := y1) (w := y59) (w2 := y265) hRC (by rw [((fm_R g271 rh0 rfl).trans ((fm_R g223 rh0 rfl).trans ((fm_R g215 rh0 rfl).trans ((fm_R g65 rh0 rfl).trans m57)))), mS, ((congrArg aI (fm_A g271 rS (by decide) rfl)).trans ((congrArg aI (fm_A g223 rS (by decide) rfl)).trans ((congrArg aI (fm_A g215 rS (by decide) rfl)).trans rfl)))]; exact z68) (by rw [((fm_R g271 rh0 rfl).trans m263), mE]; exact z278) m18 (by omega) (by omega) ((fm_I g271 rh0 rfl).trans m266) z277.2 (by rw [m272]; omega))⟩ dX5_readClause_312
                · refine lv_aload_n hx hb dX5_readClause_279 rfl (lv_at hl 3 rfl) ?_
                  refine lv_dup hx hb dX5_readClause_280 rfl ?_
                  refine fg_RX5_60 E hW rh0 dX5_readClause_281 (fun y279 m280 b281 => ?_)
                  obtain rfl : x208 = y279 := (m256).symm.trans m280
                  refine lv_iconst (v := 1) hx hb dX5_readClause_284 (by decide) ?_
                  refine q_iadd (Y := 1) hx hb dX5_readClause_285 rfl rfl (by omega) (fun x282 h283 => ?_)
                  have lt284 : x208.toInt < (oI (f221 h0) 11).toInt := ri_lt z230.1 m280 m253 m259 (by omega)
                  have le285 := tok_le hW rh0
                  have hvtlt284 : x282.toInt ≤ (oI (f221 h0) 11).toInt := by omega
                  have hW0 := hW.2.2.2
                  refine fp_RX5_60 E hW rh0 (by omega) dX5_readClause_286 (fun f286 H locs e287 n288 g289 hW => ?_)
                  have m290 : oI (f286 h0) 1 = x20 := ((fm_I g289 rh0 rfl).trans ((fm_I g223 rh0 rfl).trans ((fm_I g215 rh0 rfl).trans ((fm_I g65 rh0 rfl).trans ((fm_I g50 rh0 rfl).trans ((fm_I g42 rh0 rfl).trans ((fm_I g33 rh0 rfl).trans e23)))))))
                  have m291 : oR (f286 h0) 3 = a27 := ((fm_R g289 rh0 rfl).trans ((fm_R g223 rh0 rfl).trans ((fm_R g215 rh0 rfl).trans ((fm_R g65 rh0 rfl).trans ((fm_R g50 rh0 rfl).trans ((fm_R g42 rh0 rfl).trans ((fm_R g33 rh0 rfl).trans m28)))))))
                  have m292 : aI (f286 pt) (pa : Int32).toNatClampNeg = py := ((congrArg (fun z => aI z (pa : Int32).toNatClampNeg) (fm_A g289 rpt (by decide) rfl)).trans ((congrArg (fun z => aI z (pa : Int32).toNatClampNeg) (fm_A g223 rpt (by decide) rfl)).trans m216))
                  have m293 : aI (f286 a27) (y1 : Int32).toNatClampNeg = py := ((congrArg (fun z => aI z (y1 : Int32).toNatClampNeg) (fm_A g289 r29 (by decide) rfl)).trans ((congrArg (fun z => aI z (y1 : Int32).toNatClampNeg) (fm_A g223 r29 (by decide) rfl)).trans m217))
                  have m294 : aI (f286 a44) (y1 : Int32).toNatClampNeg = 0 := ((congrArg (fun z => aI z (y1 : Int32).toNatClampNeg) (fm_A g289 r46 (by decide) rfl)).trans ((congrArg (fun z => aI z (y1 : Int32).toNatClampNeg) (fm_A g223 r46 (by decide) rfl)).trans m218))
                  have z295 : rdJ f0 f286 h0 := (rj_at hW0 z230 g289 rh0 e287 hvtlt284)
                  have m296 : aI (f286 pE) = aI (f0 pE) := ((congrArg aI (fm_A g289 rE (by decide) rfl)).trans ((congrArg aI (fm_A g223 rE (by decide) rfl)).trans ((congrArg aI (fm_A g215 rE (by decide) rfl)).trans ((congrArg aI (fm_A g65 rE (by decide) rfl)).trans m55))))
                  have hF := FM.tr hF g289 rfl
                  refine lv_aload_n hx hb dX5_readClause_289 rfl (lv_at hl 3 rfl) ?_
                  refine lv_iconst (v := 0) hx hb dX5_readClause_290 (by decide) ?_
                  have hW0 := hW.2.2.2
                  refine t_callV (As := [.int 0]) (rest := []) E hW (c_X5_readTest_0 l G cI cJ cZ cD cR cT kp L f286 hW.2.2.2 _ h0 rh0 (z295).1) rh0 (by decide) rfl wk_X5_readTest tw_973 rfl ⟨Nat.le_of_ble_eq_true rfl, Nat.le_of_ble_eq_true rfl⟩ ⟨rfl, rfl⟩ hl.1 rfl (Nat.le_of_ble_eq_true rfl) dX5_readClause_291 ⟨Nat.le_of_ble_eq_true rfl, Nat.le_of_ble_eq_true rfl⟩ (fun v297 f298 H locs q299 hW => ?_)
                  obtain ⟨rfl, g300, h301⟩ := q299
                  have m302 : oR (f298 h0) 4 = a36 := ((fm_R g300 rh0 rfl).trans ((fm_R g289 rh0 rfl).trans ((fm_R g223 rh0 rfl).trans ((fm_R g215 rh0 rfl).trans ((fm_R g65 rh0 rfl).trans ((fm_R g50 rh0 rfl).trans ((fm_R g42 rh0 rfl).trans m37)))))))
                  have m303 : aI (f298 a36) (y1 : Int32).toNatClampNeg = 0 := ((congrArg (fun z => aI z (y1 : Int32).toNatClampNeg) (fm_A g300 r38 (by decide) rfl)).trans ((congrArg (fun z => aI z (y1 : Int32).toNatClampNeg) (fm_A g289 r38 (by decide) rfl)).trans m227))
                  have m304 : aI (f298 pS) (y1 : Int32).toNatClampNeg = y59 := ((congrArg (fun z => aI z (y1 : Int32).toNatClampNeg) (fm_A g300 rS (by decide) rfl)).trans ((congrArg (fun z => aI z (y1 : Int32).toNatClampNeg) (fm_A g289 rS (by decide) rfl)).trans m228))
                  have m305 : aI (f298 pt) (x208 : Int32).toNatClampNeg = y258 := ((congrArg (fun z => aI z (x208 : Int32).toNatClampNeg) (fm_A g300 rpt (by decide) rfl)).trans ((congrArg (fun z => aI z (x208 : Int32).toNatClampNeg) (fm_A g289 rpt (by decide) rfl)).trans m259))
                  have m307 : aI (f298 pS) = aI (f62 pS) := ((congrArg aI (fm_A g300 rS (by decide) rfl)).trans ((congrArg aI (fm_A g289 rS (by decide) rfl)).trans ((congrArg aI (fm_A g223 rS (by decide) rfl)).trans ((congrArg aI (fm_A g215 rS (by decide) rfl)).trans rfl))))
                  have hF := FM.tr hF g300 rfl
                  have z308 := rj_call z295 h301
                  refine lv_aload_n hx hb dX5_readClause_294 rfl (lv_at hl 3 rfl) ?_
                  refine lv_sipush (v := 259) hx hb dX5_readClause_295 (by decide) ?_
                  refine lv_iconst (v := 0) hx hb dX5_readClause_298 (by decide) ?_
                  have hW0 := hW.2.2.2
                  refine t_callV (As := [.int 259, .int 0]) (rest := []) E hW (c_X5_write l G cI cJ cZ cD cR cT kp L f298 hW.2.2.2 _ h0 259 0 rh0 (by decide) (z308).1) rh0 (by decide) rfl wk_X5_write tw_969 rfl ⟨Nat.le_of_ble_eq_true rfl, Nat.le_of_ble_eq_true rfl⟩ ⟨rfl, rfl⟩ hl.1 rfl (Nat.le_of_ble_eq_true rfl) dX5_readClause_299 ⟨Nat.le_of_ble_eq_true rfl, Nat.le_of_ble_eq_true rfl⟩ (fun v309 f310 H locs q311 hW => ?_)
                  obtain ⟨rfl, g312, h313⟩ := q311
                  have m314 : oR (f310 h0) 5 = a44 := ((fm_R g312 rh0 rfl).trans ((fm_R g300 rh0 rfl).trans ((fm_R g289 rh0 rfl).trans ((fm_R g223 rh0 rfl).trans ((fm_R g215 rh0 rfl).trans ((fm_R g65 rh0 rfl).trans ((fm_R g50 rh0 rfl).trans m45)))))))
                  have m315 : aI (f310 pt) (pa : Int32).toNatClampNeg = py := ((congrArg (fun z => aI z (pa : Int32).toNatClampNeg) (fm_A g312 rpt (by decide) rfl)).trans ((congrArg (fun z => aI z (pa : Int32).toNatClampNeg) (fm_A g300 rpt (by decide) rfl)).trans m292))
                  have m316 : aI (f310 a27) (y1 : Int32).toNatClampNeg = py := ((congrArg (fun z => aI z (y1 : Int32).toNatClampNeg) (fm_A g312 r29 (by decide) rfl)).trans ((congrArg (fun z => aI z (y1 : Int32).toNatClampNeg) (fm_A g300 r29 (by decide) rfl)).trans m293))
                  have m317 : aI (f310 a44) (y1 : Int32).toNatClampNeg = 0 := ((congrArg (fun z => aI z (y1 : Int32).toNatClampNeg) (fm_A g312 r46 (by decide) rfl)).trans ((congrArg (fun z => aI z (y1 : Int32).toNatClampNeg) (fm_A g300 r46 (by decide) rfl)).trans m294))
                  have hF := FM.tr hF g312 rfl
                  have z319 := rj_call z308 h313
                  refine lv_aload_n hx hb dX5_readClause_302 rfl (lv_at hl 3 rfl) ?_
                  refine fg_RX5_28 E hW rh0 dX5_readClause_303 (fun a320 m321 r322 => ?_)
                  obtain rfl : pE = a320 := (((fm_R g312 rh0 rfl).trans ((fm_R g300 rh0 rfl).trans ((fm_R g289 rh0 rfl).trans m226)))).symm.trans m321
                  refine lv_iload_n hx hb dX5_readClause_306 rfl (lv_at hl 2 rfl) ?_
                  refine lv_aload_n hx hb dX5_readClause_307 rfl (lv_at hl 3 rfl) ?_
                  refine fg_RX5_57 E hW rh0 dX5_readClause_308 (fun y323 m324 b325 => ?_)
                  have hW0 := hW.2.2.2
                  refine gs_407 E hW rE ⟨by omega, by omega⟩ dX5_readClause_311 (fun f326 H locs e327 n328 g329 hW => ?_)
                  have m330 : oR (f326 h0) 6 = pS := ((fm_R g329 rh0 rfl).trans ((fm_R g312 rh0 rfl).trans ((fm_R g300 rh0 rfl).trans ((fm_R g289 rh0 rfl).trans ((fm_R g223 rh0 rfl).trans ((fm_R g215 rh0 rfl).trans ((fm_R g65 rh0 rfl).trans m57)))))))
                  have m331 : aI (f326 a36) (y1 : Int32).toNatClampNeg = 0 := ((congrArg (fun z => aI z (y1 : Int32).toNatClampNeg) (fm_A g329 r38 (by decide) rfl)).trans ((congrArg (fun z => aI z (y1 : Int32).toNatClampNeg) (fm_A g312 r38 (by decide) rfl)).trans m303))
                  have m332 : aI (f326 pS) (y1 : Int32).toNatClampNeg = y59 := ((congrArg (fun z => aI z (y1 : Int32).toNatClampNeg) (fm_A g329 rS (by decide) rfl)).trans ((congrArg (fun z => aI z (y1 : Int32).toNatClampNeg) (fm_A g312 rS (by decide) rfl)).trans m304))
                  have m333 : aI (f326 pt) (x208 : Int32).toNatClampNeg = y258 := ((congrArg (fun z => aI z (x208 : Int32).toNatClampNeg) (fm_A g329 rpt (by decide) rfl)).trans ((congrArg (fun z => aI z (x208 : Int32).toNatClampNeg) (fm_A g312 rpt (by decide) rfl)).trans m305))
                  have z334 : rdJ f0 f326 h0 := rj_fm hW0 z319 g329 rh0 rfl rfl rfl rfl rfl
                  have hF := FM.tr hF g329 rfl
                  have z335 : aI (f326 pE) = upd (aI (f0 pE)) (y1 : Int32).toNatClampNeg y323 := by rw [e327, ((congrArg aI (fm_A g312 rE (by decide) rfl)).trans ((congrArg aI (fm_A g300 rE (by decide) rfl)).trans m296))]
                  exact e_V E hW rfl ⟨rfl, hF, z334, (rc_end (c := y1) (w := y59) (w2 := y323) hRC (by rw [m330, mS, ((congrArg aI (fm_A g329 rS (by decide) rfl)).trans ((congrArg aI (fm_A g312 rS (by decide) rfl)).trans m307))]; exact z68) (by rw [((fm_R g329 rh0 rfl).trans m321), mE]; exact z335) m18 (by omega) (by omega) ((fm_I g329 rh0 rfl).trans m324) z334.2 (by rw [((fm_I g329 rh0 rfl).trans ((fm_I g312 rh0 rfl).trans ((fm_I g300 rh0 rfl).trans m290)))]; omega))⟩ dX5_readClause_312
            · refine lv_iload_n hx hb dX5_readClause_211 rfl (lv_at hl 1 rfl) ?_
              refine lv_sipush (v := 263) hx hb dX5_readClause_212 (by decide) ?_
              refine q_icmp_eq (Y := 263) (tgt := 225) hx hb dX5_readClause_215 (by decide) rfl rfl (fun c336 => ?_) (fun c336 => ?_)
              · refine lv_aload_n hx hb dX5_readClause_225 rfl (lv_at hl 3 rfl) ?_
                refine lv_dup hx hb dX5_readClause_226 rfl ?_
                refine fg_RX5_60 E hW rh0 dX5_readClause_227 (fun y337 m338 b339 => ?_)
                obtain rfl : pa = y337 := (((fm_I g65 rh0 rfl).trans ((fm_I g50 rh0 rfl).trans ((fm_I g42 rh0 rfl).trans ((fm_I g33 rh0 rfl).trans ((fm_I g25 rh0 rfl).trans m12)))))).symm.trans m338
                refine lv_iconst (v := 1) hx hb dX5_readClause_230 (by decide) ?_
                refine q_iadd (Y := 1) hx hb dX5_readClause_231 rfl rfl (by omega) (fun x340 h341 => ?_)
                have lt342 : pa.toInt < (oI (f62 h0) 11).toInt := ri_lt z67.1 m338 ((fm_R g65 rh0 rfl).trans ((fm_R g50 rh0 rfl).trans ((fm_R g42 rh0 rfl).trans ((fm_R g33 rh0 rfl).trans ((fm_R g25 rh0 rfl).trans m9))))) ((congrArg (fun z => aI z (pa : Int32).toNatClampNeg) (fm_A g65 rpt (by decide) rfl)).trans m51) (by omega)
                have le343 := tok_le hW rh0
                have hvtlt342 : x340.toInt ≤ (oI (f62 h0) 11).toInt := by omega
                have hW0 := hW.2.2.2
                refine fp_RX5_60 E hW rh0 (by omega) dX5_readClause_232 (fun f344 H locs e345 n346 g347 hW => ?_)
                have m348 : aI (f344 pt) (pa : Int32).toNatClampNeg = py := ((congrArg (fun z => aI z (pa : Int32).toNatClampNeg) (fm_A g347 rpt (by decide) rfl)).trans ((congrArg (fun z => aI z (pa : Int32).toNatClampNeg) (fm_A g65 rpt (by decide) rfl)).trans m51))
                have m349 : aI (f344 a27) (y1 : Int32).toNatClampNeg = py := ((congrArg (fun z => aI z (y1 : Int32).toNatClampNeg) (fm_A g347 r29 (by decide) rfl)).trans ((congrArg (fun z => aI z (y1 : Int32).toNatClampNeg) (fm_A g65 r29 (by decide) rfl)).trans m52))
                have m350 : aI (f344 a44) (y1 : Int32).toNatClampNeg = 0 := ((congrArg (fun z => aI z (y1 : Int32).toNatClampNeg) (fm_A g347 r46 (by decide) rfl)).trans ((congrArg (fun z => aI z (y1 : Int32).toNatClampNeg) (fm_A g65 r46 (by decide) rfl)).trans (show aI (f47 a44) (y1 : Int32).toNatClampNeg = 0 from by rw [e48]; exact up_s)))
                have z351 : rdJ f0 f344 h0 := (rj_at hW0 z67 g347 rh0 e345 hvtlt342)
                have hF := FM.tr hF g347 rfl
                refine lv_aload_n hx hb dX5_readClause_235 rfl (lv_at hl 3 rfl) ?_
                refine lv_sipush (v := 301) hx hb dX5_readClause_236 (by decide) ?_
                refine lv_iconst (v := 0) hx hb dX5_readClause_239 (by decide) ?_
                have hW0 := hW.2.2.2
                refine t_callV (As := [.int 301, .int 0]) (rest := []) E hW (c_X5_write l G cI cJ cZ cD cR cT kp L f344 hW.2.2.2 _ h0 301 0 rh0 (by decide) (z351).1) rh0 (by decide) rfl wk_X5_write tw_969 rfl ⟨Nat.le_of_ble_eq_true rfl, Nat.le_of_ble_eq_true rfl⟩ ⟨rfl, rfl⟩ hl.1 rfl (Nat.le_of_ble_eq_true rfl) dX5_readClause_240 ⟨Nat.le_of_ble_eq_true rfl, Nat.le_of_ble_eq_true rfl⟩ (fun v352 f353 H locs q354 hW => ?_)
                obtain ⟨rfl, g355, h356⟩ := q354
                have m357 : oR (f353 h0) 12 = pt := ((fm_R g355 rh0 rfl).trans ((fm_R g347 rh0 rfl).trans ((fm_R g65 rh0 rfl).trans ((fm_R g50 rh0 rfl).trans ((fm_R g42 rh0 rfl).trans ((fm_R g33 rh0 rfl).trans ((fm_R g25 rh0 rfl).trans m9)))))))
                have m358 : oR (f353 h0) 7 = pE := ((fm_R g355 rh0 rfl).trans ((fm_R g347 rh0 rfl).trans ((fm_R g65 rh0 rfl).trans ((fm_R g50 rh0 rfl).trans ((fm_R g42 rh0 rfl).trans ((fm_R g33 rh0 rfl).trans ((fm_R g25 rh0 rfl).trans mE)))))))
                have m359 : aI (f353 a36) (y1 : Int32).toNatClampNeg = 0 := ((congrArg (fun z => aI z (y1 : Int32).toNatClampNeg) (fm_A g355 r38 (by decide) rfl)).trans ((congrArg (fun z => aI z (y1 : Int32).toNatClampNeg) (fm_A g347 r38 (by decide) rfl)).trans m66))
                have m360 : aI (f353 pS) (y1 : Int32).toNatClampNeg = y59 := ((congrArg (fun z => aI z (y1 : Int32).toNatClampNeg) (fm_A g355 rS (by decide) rfl)).trans ((congrArg (fun z => aI z (y1 : Int32).toNatClampNeg) (fm_A g347 rS (by decide) rfl)).trans (show aI (f62 pS) (y1 : Int32).toNatClampNeg = y59 from by rw [e63]; exact up_s)))
                have hF := FM.tr hF g355 rfl
                have z362 := rj_call z351 h356
                refine lv_iconst (v := 1) hx hb dX5_readClause_243 (by decide) ?_
                refine lv_istore_n (lv' := [(3, .int 1), (2, .int py), (1, .int y1), (0, .ref h0)]) hx hb dX5_readClause_244 rfl hl (by decide) rfl (fun ls hl => ?_)
                refine lv_goto (tgt := 252) hx hb dX5_readClause_245 (by decide) ?_
                refine lv_iload_n hx hb dX5_readClause_252 rfl (lv_at hl 0 rfl) ?_
                refine q_if_eq (X := 1) (tgt := 302) hx hb dX5_readClause_253 (by decide) rfl (fun c => absurd c (by decide)) (fun _ => ?_)
                refine lv_aload_n hx hb dX5_readClause_256 rfl (lv_at hl 3 rfl) ?_
                refine fg_RX5_9 E hW rh0 dX5_readClause_257 (fun y363 m364 => ?_)
                refine lv_iconst (v := (-1)) hx hb dX5_readClause_260 (by decide) ?_
                refine q_icmp_ne (Y := -1) (tgt := 302) hx hb dX5_readClause_261 (by decide) rfl rfl (fun c366 => ?_) (fun c366 => ?_)
                · refine lv_aload_n hx hb dX5_readClause_302 rfl (lv_at hl 3 rfl) ?_
                  refine fg_RX5_28 E hW rh0 dX5_readClause_303 (fun a367 m368 r369 => ?_)
                  obtain rfl : pE = a367 := (m358).symm.trans m368
                  refine lv_iload_n hx hb dX5_readClause_306 rfl (lv_at hl 2 rfl) ?_
                  refine lv_aload_n hx hb dX5_readClause_307 rfl (lv_at hl 3 rfl) ?_
                  refine fg_RX5_57 E hW rh0 dX5_readClause_308 (fun y370 m371 b372 => ?_)
                  have hW0 := hW.2.2.2
                  refine gs_407 E hW rE ⟨by omega, by omega⟩ dX5_readClause_311 (fun f373 H locs e374 n375 g376 hW => ?_)
                  have m377 : oI (f373 h0) 1 = x20 := ((fm_I g376 rh0 rfl).trans ((fm_I g355 rh0 rfl).trans ((fm_I g347 rh0 rfl).trans ((fm_I g65 rh0 rfl).trans ((fm_I g50 rh0 rfl).trans ((fm_I g42 rh0 rfl).trans ((fm_I g33 rh0 rfl).trans e23)))))))
                  have m378 : oR (f373 h0) 3 = a27 := ((fm_R g376 rh0 rfl).trans ((fm_R g355 rh0 rfl).trans ((fm_R g347 rh0 rfl).trans ((fm_R g65 rh0 rfl).trans ((fm_R g50 rh0 rfl).trans ((fm_R g42 rh0 rfl).trans ((fm_R g33 rh0 rfl).trans m28)))))))
                  have m379 : aI (f373 pt) (pa : Int32).toNatClampNeg = py := ((congrArg (fun z => aI z (pa : Int32).toNatClampNeg) (fm_A g376 rpt (by decide) rfl)).trans ((congrArg (fun z => aI z (pa : Int32).toNatClampNeg) (fm_A g355 rpt (by decide) rfl)).trans m348))
                  have m380 : aI (f373 a27) (y1 : Int32).toNatClampNeg = py := ((congrArg (fun z => aI z (y1 : Int32).toNatClampNeg) (fm_A g376 r29 (by decide) rfl)).trans ((congrArg (fun z => aI z (y1 : Int32).toNatClampNeg) (fm_A g355 r29 (by decide) rfl)).trans m349))
                  have m381 : aI (f373 a44) (y1 : Int32).toNatClampNeg = 0 := ((congrArg (fun z => aI z (y1 : Int32).toNatClampNeg) (fm_A g376 r46 (by decide) rfl)).trans ((congrArg (fun z => aI z (y1 : Int32).toNatClampNeg) (fm_A g355 r46 (by decide) rfl)).trans m350))
                  have z382 : rdJ f0 f373 h0 := rj_fm hW0 z362 g376 rh0 rfl rfl rfl rfl rfl
                  have hF := FM.tr hF g376 rfl
                  have z383 : aI (f373 pE) = upd (aI (f0 pE)) (y1 : Int32).toNatClampNeg y370 := by rw [e374, ((congrArg aI (fm_A g355 rE (by decide) rfl)).trans ((congrArg aI (fm_A g347 rE (by decide) rfl)).trans ((congrArg aI (fm_A g65 rE (by decide) rfl)).trans m55)))]
                  exact e_V E hW rfl ⟨rfl, hF, z382, (rc_end (c := y1) (w := y59) (w2 := y370) hRC (by rw [((fm_R g376 rh0 rfl).trans ((fm_R g355 rh0 rfl).trans ((fm_R g347 rh0 rfl).trans ((fm_R g65 rh0 rfl).trans m57)))), mS, ((congrArg aI (fm_A g376 rS (by decide) rfl)).trans ((congrArg aI (fm_A g355 rS (by decide) rfl)).trans ((congrArg aI (fm_A g347 rS (by decide) rfl)).trans rfl)))]; exact z68) (by rw [((fm_R g376 rh0 rfl).trans m368), mE]; exact z383) m18 (by omega) (by omega) ((fm_I g376 rh0 rfl).trans m371) z382.2 (by rw [m377]; omega))⟩ dX5_readClause_312
                · refine lv_aload_n hx hb dX5_readClause_264 rfl (lv_at hl 3 rfl) ?_
                  refine fg_RX5_37 E hW rh0 dX5_readClause_265 (fun a384 m385 r386 => ?_)
                  obtain rfl : pt = a384 := (m357).symm.trans m385
                  refine lv_aload_n hx hb dX5_readClause_268 rfl (lv_at hl 3 rfl) ?_
                  refine fg_RX5_60 E hW rh0 dX5_readClause_269 (fun y387 m388 b389 => ?_)
                  obtain rfl : x340 = y387 := (((fm_I g355 rh0 rfl).trans e345)).symm.trans m388
                  refine gl_412 E hW rpt ⟨by omega, by omega⟩ dX5_readClause_272 (fun y390 m391 => ?_)
                  refine lv_sipush (v := 259) hx hb dX5_readClause_273 (by decide) ?_
                  refine q_icmp_ne (Y := 259) (tgt := 302) hx hb dX5_readClause_276 (by decide) rfl rfl (fun c393 => ?_) (fun c393 => ?_)
                  · refine lv_aload_n hx hb dX5_readClause_302 rfl (lv_at hl 3 rfl) ?_
                    refine fg_RX5_28 E hW rh0 dX5_readClause_303 (fun a394 m395 r396 => ?_)
                    obtain rfl : pE = a394 := (m358).symm.trans m395
                    refine lv_iload_n hx hb dX5_readClause_306 rfl (lv_at hl 2 rfl) ?_
                    refine lv_aload_n hx hb dX5_readClause_307 rfl (lv_at hl 3 rfl) ?_
                    refine fg_RX5_57 E hW rh0 dX5_readClause_308 (fun y397 m398 b399 => ?_)
                    have hW0 := hW.2.2.2
                    refine gs_407 E hW rE ⟨by omega, by omega⟩ dX5_readClause_311 (fun f400 H locs e401 n402 g403 hW => ?_)
                    have m404 : oI (f400 h0) 1 = x20 := ((fm_I g403 rh0 rfl).trans ((fm_I g355 rh0 rfl).trans ((fm_I g347 rh0 rfl).trans ((fm_I g65 rh0 rfl).trans ((fm_I g50 rh0 rfl).trans ((fm_I g42 rh0 rfl).trans ((fm_I g33 rh0 rfl).trans e23)))))))
                    have m405 : oR (f400 h0) 3 = a27 := ((fm_R g403 rh0 rfl).trans ((fm_R g355 rh0 rfl).trans ((fm_R g347 rh0 rfl).trans ((fm_R g65 rh0 rfl).trans ((fm_R g50 rh0 rfl).trans ((fm_R g42 rh0 rfl).trans ((fm_R g33 rh0 rfl).trans m28)))))))
                    have m406 : aI (f400 pt) (pa : Int32).toNatClampNeg = py := ((congrArg (fun z => aI z (pa : Int32).toNatClampNeg) (fm_A g403 rpt (by decide) rfl)).trans ((congrArg (fun z => aI z (pa : Int32).toNatClampNeg) (fm_A g355 rpt (by decide) rfl)).trans m348))
                    have m407 : aI (f400 a27) (y1 : Int32).toNatClampNeg = py := ((congrArg (fun z => aI z (y1 : Int32).toNatClampNeg) (fm_A g403 r29 (by decide) rfl)).trans ((congrArg (fun z => aI z (y1 : Int32).toNatClampNeg) (fm_A g355 r29 (by decide) rfl)).trans m349))
                    have m408 : aI (f400 a44) (y1 : Int32).toNatClampNeg = 0 := ((congrArg (fun z => aI z (y1 : Int32).toNatClampNeg) (fm_A g403 r46 (by decide) rfl)).trans ((congrArg (fun z => aI z (y1 : Int32).toNatClampNeg) (fm_A g355 r46 (by decide) rfl)).trans m350))
                    have z409 : rdJ f0 f400 h0 := rj_fm hW0 z362 g403 rh0 rfl rfl rfl rfl rfl
                    have hF := FM.tr hF g403 rfl
                    have z410 : aI (f400 pE) = upd (aI (f0 pE)) (y1 : Int32).toNatClampNeg y397 := by rw [e401, ((congrArg aI (fm_A g355 rE (by decide) rfl)).trans ((congrArg aI (fm_A g347 rE (by decide) rfl)).trans ((congrArg aI (fm_A g65 rE (by decide) rfl)).trans m55)))]
                    exact e_V E hW rfl ⟨rfl, hF, z409, (rc_end (c := y1) (w := y59) (w2 := y397) hRC (by rw [((fm_R g403 rh0 rfl).trans ((fm_R g355 rh0 rfl).trans ((fm_R g347 rh0 rfl).trans ((fm_R g65 rh0 rfl).trans m57)))), mS, ((congrArg aI (fm_A g403 rS (by decide) rfl)).trans ((congrArg aI (fm_A g355 rS (by decide) rfl)).trans ((congrArg aI (fm_A g347 rS (by decide) rfl)).trans rfl)))]; exact z68) (by rw [((fm_R g403 rh0 rfl).trans m395), mE]; exact z410) m18 (by omega) (by omega) ((fm_I g403 rh0 rfl).trans m398) z409.2 (by rw [m404]; omega))⟩ dX5_readClause_312
                  · refine lv_aload_n hx hb dX5_readClause_279 rfl (lv_at hl 3 rfl) ?_
                    refine lv_dup hx hb dX5_readClause_280 rfl ?_
                    refine fg_RX5_60 E hW rh0 dX5_readClause_281 (fun y411 m412 b413 => ?_)
                    obtain rfl : x340 = y411 := (m388).symm.trans m412
                    refine lv_iconst (v := 1) hx hb dX5_readClause_284 (by decide) ?_
                    refine q_iadd (Y := 1) hx hb dX5_readClause_285 rfl rfl (by omega) (fun x414 h415 => ?_)
                    have lt416 : x340.toInt < (oI (f353 h0) 11).toInt := ri_lt z362.1 m412 m385 m391 (by omega)
                    have le417 := tok_le hW rh0
                    have hvtlt416 : x414.toInt ≤ (oI (f353 h0) 11).toInt := by omega
                    have hW0 := hW.2.2.2
                    refine fp_RX5_60 E hW rh0 (by omega) dX5_readClause_286 (fun f418 H locs e419 n420 g421 hW => ?_)
                    have m422 : oI (f418 h0) 1 = x20 := ((fm_I g421 rh0 rfl).trans ((fm_I g355 rh0 rfl).trans ((fm_I g347 rh0 rfl).trans ((fm_I g65 rh0 rfl).trans ((fm_I g50 rh0 rfl).trans ((fm_I g42 rh0 rfl).trans ((fm_I g33 rh0 rfl).trans e23)))))))
                    have m423 : oR (f418 h0) 3 = a27 := ((fm_R g421 rh0 rfl).trans ((fm_R g355 rh0 rfl).trans ((fm_R g347 rh0 rfl).trans ((fm_R g65 rh0 rfl).trans ((fm_R g50 rh0 rfl).trans ((fm_R g42 rh0 rfl).trans ((fm_R g33 rh0 rfl).trans m28)))))))
                    have m424 : aI (f418 pt) (pa : Int32).toNatClampNeg = py := ((congrArg (fun z => aI z (pa : Int32).toNatClampNeg) (fm_A g421 rpt (by decide) rfl)).trans ((congrArg (fun z => aI z (pa : Int32).toNatClampNeg) (fm_A g355 rpt (by decide) rfl)).trans m348))
                    have m425 : aI (f418 a27) (y1 : Int32).toNatClampNeg = py := ((congrArg (fun z => aI z (y1 : Int32).toNatClampNeg) (fm_A g421 r29 (by decide) rfl)).trans ((congrArg (fun z => aI z (y1 : Int32).toNatClampNeg) (fm_A g355 r29 (by decide) rfl)).trans m349))
                    have m426 : aI (f418 a44) (y1 : Int32).toNatClampNeg = 0 := ((congrArg (fun z => aI z (y1 : Int32).toNatClampNeg) (fm_A g421 r46 (by decide) rfl)).trans ((congrArg (fun z => aI z (y1 : Int32).toNatClampNeg) (fm_A g355 r46 (by decide) rfl)).trans m350))
                    have z427 : rdJ f0 f418 h0 := (rj_at hW0 z362 g421 rh0 e419 hvtlt416)
                    have m428 : aI (f418 pE) = aI (f0 pE) := ((congrArg aI (fm_A g421 rE (by decide) rfl)).trans ((congrArg aI (fm_A g355 rE (by decide) rfl)).trans ((congrArg aI (fm_A g347 rE (by decide) rfl)).trans ((congrArg aI (fm_A g65 rE (by decide) rfl)).trans m55))))
                    have hF := FM.tr hF g421 rfl
                    refine lv_aload_n hx hb dX5_readClause_289 rfl (lv_at hl 3 rfl) ?_
                    refine lv_iconst (v := 0) hx hb dX5_readClause_290 (by decide) ?_
                    have hW0 := hW.2.2.2
                    refine t_callV (As := [.int 0]) (rest := []) E hW (c_X5_readTest_0 l G cI cJ cZ cD cR cT kp L f418 hW.2.2.2 _ h0 rh0 (z427).1) rh0 (by decide) rfl wk_X5_readTest tw_973 rfl ⟨Nat.le_of_ble_eq_true rfl, Nat.le_of_ble_eq_true rfl⟩ ⟨rfl, rfl⟩ hl.1 rfl (Nat.le_of_ble_eq_true rfl) dX5_readClause_291 ⟨Nat.le_of_ble_eq_true rfl, Nat.le_of_ble_eq_true rfl⟩ (fun v429 f430 H locs q431 hW => ?_)
                    obtain ⟨rfl, g432, h433⟩ := q431
                    have m434 : oR (f430 h0) 4 = a36 := ((fm_R g432 rh0 rfl).trans ((fm_R g421 rh0 rfl).trans ((fm_R g355 rh0 rfl).trans ((fm_R g347 rh0 rfl).trans ((fm_R g65 rh0 rfl).trans ((fm_R g50 rh0 rfl).trans ((fm_R g42 rh0 rfl).trans m37)))))))
                    have m435 : aI (f430 a36) (y1 : Int32).toNatClampNeg = 0 := ((congrArg (fun z => aI z (y1 : Int32).toNatClampNeg) (fm_A g432 r38 (by decide) rfl)).trans ((congrArg (fun z => aI z (y1 : Int32).toNatClampNeg) (fm_A g421 r38 (by decide) rfl)).trans m359))
                    have m436 : aI (f430 pS) (y1 : Int32).toNatClampNeg = y59 := ((congrArg (fun z => aI z (y1 : Int32).toNatClampNeg) (fm_A g432 rS (by decide) rfl)).trans ((congrArg (fun z => aI z (y1 : Int32).toNatClampNeg) (fm_A g421 rS (by decide) rfl)).trans m360))
                    have m437 : aI (f430 pt) (x340 : Int32).toNatClampNeg = y390 := ((congrArg (fun z => aI z (x340 : Int32).toNatClampNeg) (fm_A g432 rpt (by decide) rfl)).trans ((congrArg (fun z => aI z (x340 : Int32).toNatClampNeg) (fm_A g421 rpt (by decide) rfl)).trans m391))
                    have m439 : aI (f430 pS) = aI (f62 pS) := ((congrArg aI (fm_A g432 rS (by decide) rfl)).trans ((congrArg aI (fm_A g421 rS (by decide) rfl)).trans ((congrArg aI (fm_A g355 rS (by decide) rfl)).trans ((congrArg aI (fm_A g347 rS (by decide) rfl)).trans rfl))))
                    have hF := FM.tr hF g432 rfl
                    have z440 := rj_call z427 h433
                    refine lv_aload_n hx hb dX5_readClause_294 rfl (lv_at hl 3 rfl) ?_
                    refine lv_sipush (v := 259) hx hb dX5_readClause_295 (by decide) ?_
                    refine lv_iconst (v := 0) hx hb dX5_readClause_298 (by decide) ?_
                    have hW0 := hW.2.2.2
                    refine t_callV (As := [.int 259, .int 0]) (rest := []) E hW (c_X5_write l G cI cJ cZ cD cR cT kp L f430 hW.2.2.2 _ h0 259 0 rh0 (by decide) (z440).1) rh0 (by decide) rfl wk_X5_write tw_969 rfl ⟨Nat.le_of_ble_eq_true rfl, Nat.le_of_ble_eq_true rfl⟩ ⟨rfl, rfl⟩ hl.1 rfl (Nat.le_of_ble_eq_true rfl) dX5_readClause_299 ⟨Nat.le_of_ble_eq_true rfl, Nat.le_of_ble_eq_true rfl⟩ (fun v441 f442 H locs q443 hW => ?_)
                    obtain ⟨rfl, g444, h445⟩ := q443
                    have m446 : oR (f442 h0) 5 = a44 := ((fm_R g444 rh0 rfl).trans ((fm_R g432 rh0 rfl).trans ((fm_R g421 rh0 rfl).trans ((fm_R g355 rh0 rfl).trans ((fm_R g347 rh0 rfl).trans ((fm_R g65 rh0 rfl).trans ((fm_R g50 rh0 rfl).trans m45)))))))
                    have m447 : aI (f442 pt) (pa : Int32).toNatClampNeg = py := ((congrArg (fun z => aI z (pa : Int32).toNatClampNeg) (fm_A g444 rpt (by decide) rfl)).trans ((congrArg (fun z => aI z (pa : Int32).toNatClampNeg) (fm_A g432 rpt (by decide) rfl)).trans m424))
                    have m448 : aI (f442 a27) (y1 : Int32).toNatClampNeg = py := ((congrArg (fun z => aI z (y1 : Int32).toNatClampNeg) (fm_A g444 r29 (by decide) rfl)).trans ((congrArg (fun z => aI z (y1 : Int32).toNatClampNeg) (fm_A g432 r29 (by decide) rfl)).trans m425))
                    have m449 : aI (f442 a44) (y1 : Int32).toNatClampNeg = 0 := ((congrArg (fun z => aI z (y1 : Int32).toNatClampNeg) (fm_A g444 r46 (by decide) rfl)).trans ((congrArg (fun z => aI z (y1 : Int32).toNatClampNeg) (fm_A g432 r46 (by decide) rfl)).trans m426))
                    have hF := FM.tr hF g444 rfl
                    have z451 := rj_call z440 h445
                    refine lv_aload_n hx hb dX5_readClause_302 rfl (lv_at hl 3 rfl) ?_
                    refine fg_RX5_28 E hW rh0 dX5_readClause_303 (fun a452 m453 r454 => ?_)
                    obtain rfl : pE = a452 := (((fm_R g444 rh0 rfl).trans ((fm_R g432 rh0 rfl).trans ((fm_R g421 rh0 rfl).trans m358)))).symm.trans m453
                    refine lv_iload_n hx hb dX5_readClause_306 rfl (lv_at hl 2 rfl) ?_
                    refine lv_aload_n hx hb dX5_readClause_307 rfl (lv_at hl 3 rfl) ?_
                    refine fg_RX5_57 E hW rh0 dX5_readClause_308 (fun y455 m456 b457 => ?_)
                    have hW0 := hW.2.2.2
                    refine gs_407 E hW rE ⟨by omega, by omega⟩ dX5_readClause_311 (fun f458 H locs e459 n460 g461 hW => ?_)
                    have m462 : oR (f458 h0) 6 = pS := ((fm_R g461 rh0 rfl).trans ((fm_R g444 rh0 rfl).trans ((fm_R g432 rh0 rfl).trans ((fm_R g421 rh0 rfl).trans ((fm_R g355 rh0 rfl).trans ((fm_R g347 rh0 rfl).trans ((fm_R g65 rh0 rfl).trans m57)))))))
                    have m463 : aI (f458 a36) (y1 : Int32).toNatClampNeg = 0 := ((congrArg (fun z => aI z (y1 : Int32).toNatClampNeg) (fm_A g461 r38 (by decide) rfl)).trans ((congrArg (fun z => aI z (y1 : Int32).toNatClampNeg) (fm_A g444 r38 (by decide) rfl)).trans m435))
                    have m464 : aI (f458 pS) (y1 : Int32).toNatClampNeg = y59 := ((congrArg (fun z => aI z (y1 : Int32).toNatClampNeg) (fm_A g461 rS (by decide) rfl)).trans ((congrArg (fun z => aI z (y1 : Int32).toNatClampNeg) (fm_A g444 rS (by decide) rfl)).trans m436))
                    have m465 : aI (f458 pt) (x340 : Int32).toNatClampNeg = y390 := ((congrArg (fun z => aI z (x340 : Int32).toNatClampNeg) (fm_A g461 rpt (by decide) rfl)).trans ((congrArg (fun z => aI z (x340 : Int32).toNatClampNeg) (fm_A g444 rpt (by decide) rfl)).trans m437))
                    have z466 : rdJ f0 f458 h0 := rj_fm hW0 z451 g461 rh0 rfl rfl rfl rfl rfl
                    have hF := FM.tr hF g461 rfl
                    have z467 : aI (f458 pE) = upd (aI (f0 pE)) (y1 : Int32).toNatClampNeg y455 := by rw [e459, ((congrArg aI (fm_A g444 rE (by decide) rfl)).trans ((congrArg aI (fm_A g432 rE (by decide) rfl)).trans m428))]
                    exact e_V E hW rfl ⟨rfl, hF, z466, (rc_end (c := y1) (w := y59) (w2 := y455) hRC (by rw [m462, mS, ((congrArg aI (fm_A g461 rS (by decide) rfl)).trans ((congrArg aI (fm_A g444 rS (by decide) rfl)).trans m439))]; exact z68) (by rw [((fm_R g461 rh0 rfl).trans m453), mE]; exact z467) m18 (by omega) (by omega) ((fm_I g461 rh0 rfl).trans m456) z466.2 (by rw [((fm_I g461 rh0 rfl).trans ((fm_I g444 rh0 rfl).trans ((fm_I g432 rh0 rfl).trans m422)))]; omega))⟩ dX5_readClause_312
              · refine lv_iload_n hx hb dX5_readClause_218 rfl (lv_at hl 1 rfl) ?_
                refine lv_sipush (v := 264) hx hb dX5_readClause_219 (by decide) ?_
                refine q_icmp_ne (Y := 264) (tgt := 248) hx hb dX5_readClause_222 (by decide) rfl rfl (fun c468 => ?_) (fun c468 => ?_)
                · refine lv_aload_n hx hb dX5_readClause_248 rfl (lv_at hl 3 rfl) ?_
                  have hW0 := hW.2.2.2
                  refine t_callV (As := []) (rest := []) E hW (c_X5_fail l G cI cJ cZ cD cR cT kp L f62 hW.2.2.2 _ h0 rh0 (z67).1) rh0 (by decide) rfl wk_X5_fail tw_941 rfl ⟨Nat.le_of_ble_eq_true rfl, Nat.le_of_ble_eq_true rfl⟩ ⟨rfl, rfl⟩ hl.1 rfl (Nat.le_of_ble_eq_true rfl) dX5_readClause_249 ⟨Nat.le_of_ble_eq_true rfl, Nat.le_of_ble_eq_true rfl⟩ (fun v469 f470 H locs q471 hW => ?_)
                  obtain ⟨rfl, g472, h473, h474⟩ := q471
                  have m475 : aI (f470 pt) (pa : Int32).toNatClampNeg = py := ((congrArg (fun z => aI z (pa : Int32).toNatClampNeg) (fm_A g472 rpt (by decide) rfl)).trans ((congrArg (fun z => aI z (pa : Int32).toNatClampNeg) (fm_A g65 rpt (by decide) rfl)).trans m51))
                  have m476 : aI (f470 a27) (y1 : Int32).toNatClampNeg = py := ((congrArg (fun z => aI z (y1 : Int32).toNatClampNeg) (fm_A g472 r29 (by decide) rfl)).trans ((congrArg (fun z => aI z (y1 : Int32).toNatClampNeg) (fm_A g65 r29 (by decide) rfl)).trans m52))
                  have m477 : aI (f470 a44) (y1 : Int32).toNatClampNeg = 0 := ((congrArg (fun z => aI z (y1 : Int32).toNatClampNeg) (fm_A g472 r46 (by decide) rfl)).trans ((congrArg (fun z => aI z (y1 : Int32).toNatClampNeg) (fm_A g65 r46 (by decide) rfl)).trans (show aI (f47 a44) (y1 : Int32).toNatClampNeg = 0 from by rw [e48]; exact up_s)))
                  have z478 : rdJ f0 f470 h0 := rj_fm hW0 z67 g472 rh0 rfl rfl rfl rfl rfl
                  have hF := FM.tr hF g472 rfl
                  have z479 := rj_call z67 h473
                  refine lv_iload_n hx hb dX5_readClause_252 rfl (lv_at hl 0 rfl) ?_
                  refine q_if_eq (X := 0) (tgt := 302) hx hb dX5_readClause_253 (by decide) rfl (fun _ => ?_) (fun c => absurd c (by decide))
                  refine lv_aload_n hx hb dX5_readClause_302 rfl (lv_at hl 3 rfl) ?_
                  refine fg_RX5_28 E hW rh0 dX5_readClause_303 (fun a480 m481 r482 => ?_)
                  obtain rfl : pE = a480 := (((fm_R g472 rh0 rfl).trans ((fm_R g65 rh0 rfl).trans ((fm_R g50 rh0 rfl).trans ((fm_R g42 rh0 rfl).trans ((fm_R g33 rh0 rfl).trans ((fm_R g25 rh0 rfl).trans mE))))))).symm.trans m481
                  refine lv_iload_n hx hb dX5_readClause_306 rfl (lv_at hl 2 rfl) ?_
                  refine lv_aload_n hx hb dX5_readClause_307 rfl (lv_at hl 3 rfl) ?_
                  refine fg_RX5_57 E hW rh0 dX5_readClause_308 (fun y483 m484 b485 => ?_)
                  obtain rfl : y59 = y483 := (((fm_I g472 rh0 rfl).trans ((fm_I g65 rh0 rfl).trans m60))).symm.trans m484
                  have hW0 := hW.2.2.2
                  refine gs_407 E hW rE ⟨by omega, by omega⟩ dX5_readClause_311 (fun f486 H locs e487 n488 g489 hW => ?_)
                  have m490 : oI (f486 h0) 15 = pa := ((fm_I g489 rh0 rfl).trans ((fm_I g472 rh0 rfl).trans ((fm_I g65 rh0 rfl).trans ((fm_I g50 rh0 rfl).trans ((fm_I g42 rh0 rfl).trans ((fm_I g33 rh0 rfl).trans ((fm_I g25 rh0 rfl).trans m12)))))))
                  have m491 : oR (f486 h0) 12 = pt := ((fm_R g489 rh0 rfl).trans ((fm_R g472 rh0 rfl).trans ((fm_R g65 rh0 rfl).trans ((fm_R g50 rh0 rfl).trans ((fm_R g42 rh0 rfl).trans ((fm_R g33 rh0 rfl).trans ((fm_R g25 rh0 rfl).trans m9)))))))
                  have m492 : aI (f486 a36) (y1 : Int32).toNatClampNeg = 0 := ((congrArg (fun z => aI z (y1 : Int32).toNatClampNeg) (fm_A g489 r38 (by decide) rfl)).trans ((congrArg (fun z => aI z (y1 : Int32).toNatClampNeg) (fm_A g472 r38 (by decide) rfl)).trans m66))
                  have m493 : aI (f486 pS) (y1 : Int32).toNatClampNeg = y59 := ((congrArg (fun z => aI z (y1 : Int32).toNatClampNeg) (fm_A g489 rS (by decide) rfl)).trans ((congrArg (fun z => aI z (y1 : Int32).toNatClampNeg) (fm_A g472 rS (by decide) rfl)).trans (show aI (f62 pS) (y1 : Int32).toNatClampNeg = y59 from by rw [e63]; exact up_s)))
                  have z494 : rdJ f0 f486 h0 := rj_fm hW0 z479 g489 rh0 rfl rfl rfl rfl rfl
                  have hF := FM.tr hF g489 rfl
                  have z495 : aI (f486 pE) = upd (aI (f0 pE)) (y1 : Int32).toNatClampNeg y59 := by rw [e487, ((congrArg aI (fm_A g472 rE (by decide) rfl)).trans ((congrArg aI (fm_A g65 rE (by decide) rfl)).trans m55))]
                  exact e_V E hW rfl ⟨rfl, hF, z494, (rc_end (c := y1) (w := y59) (w2 := y59) hRC (by rw [((fm_R g489 rh0 rfl).trans ((fm_R g472 rh0 rfl).trans ((fm_R g65 rh0 rfl).trans m57))), mS, ((congrArg aI (fm_A g489 rS (by decide) rfl)).trans ((congrArg aI (fm_A g472 rS (by decide) rfl)).trans rfl))]; exact z68) (by rw [((fm_R g489 rh0 rfl).trans m481), mE]; exact z495) m18 (by omega) (by omega) ((fm_I g489 rh0 rfl).trans m484) z494.2 (by rw [((fm_I g489 rh0 rfl).trans ((fm_I g472 rh0 rfl).trans ((fm_I g65 rh0 rfl).trans ((fm_I g50 rh0 rfl).trans ((fm_I g42 rh0 rfl).trans ((fm_I g33 rh0 rfl).trans e23))))))]; omega))⟩ dX5_readClause_312
                · refine lv_aload_n hx hb dX5_readClause_225 rfl (lv_at hl 3 rfl) ?_
                  refine lv_dup hx hb dX5_readClause_226 rfl ?_
                  refine fg_RX5_60 E hW rh0 dX5_readClause_227 (fun y496 m497 b498 => ?_)
                  obtain rfl : pa = y496 := (((fm_I g65 rh0 rfl).trans ((fm_I g50 rh0 rfl).trans ((fm_I g42 rh0 rfl).trans ((fm_I g33 rh0 rfl).trans ((fm_I g25 rh0 rfl).trans m12)))))).symm.trans m497
                  refine lv_iconst (v := 1) hx hb dX5_readClause_230 (by decide) ?_
                  refine q_iadd (Y := 1) hx hb dX5_readClause_231 rfl rfl (by omega) (fun x499 h500 => ?_)
                  have lt501 : pa.toInt < (oI (f62 h0) 11).toInt := ri_lt z67.1 m497 ((fm_R g65 rh0 rfl).trans ((fm_R g50 rh0 rfl).trans ((fm_R g42 rh0 rfl).trans ((fm_R g33 rh0 rfl).trans ((fm_R g25 rh0 rfl).trans m9))))) ((congrArg (fun z => aI z (pa : Int32).toNatClampNeg) (fm_A g65 rpt (by decide) rfl)).trans m51) (by omega)
                  have le502 := tok_le hW rh0
                  have hvtlt501 : x499.toInt ≤ (oI (f62 h0) 11).toInt := by omega
                  have hW0 := hW.2.2.2
                  refine fp_RX5_60 E hW rh0 (by omega) dX5_readClause_232 (fun f503 H locs e504 n505 g506 hW => ?_)
                  have m507 : aI (f503 pt) (pa : Int32).toNatClampNeg = py := ((congrArg (fun z => aI z (pa : Int32).toNatClampNeg) (fm_A g506 rpt (by decide) rfl)).trans ((congrArg (fun z => aI z (pa : Int32).toNatClampNeg) (fm_A g65 rpt (by decide) rfl)).trans m51))
                  have m508 : aI (f503 a27) (y1 : Int32).toNatClampNeg = py := ((congrArg (fun z => aI z (y1 : Int32).toNatClampNeg) (fm_A g506 r29 (by decide) rfl)).trans ((congrArg (fun z => aI z (y1 : Int32).toNatClampNeg) (fm_A g65 r29 (by decide) rfl)).trans m52))
                  have m509 : aI (f503 a44) (y1 : Int32).toNatClampNeg = 0 := ((congrArg (fun z => aI z (y1 : Int32).toNatClampNeg) (fm_A g506 r46 (by decide) rfl)).trans ((congrArg (fun z => aI z (y1 : Int32).toNatClampNeg) (fm_A g65 r46 (by decide) rfl)).trans (show aI (f47 a44) (y1 : Int32).toNatClampNeg = 0 from by rw [e48]; exact up_s)))
                  have z510 : rdJ f0 f503 h0 := (rj_at hW0 z67 g506 rh0 e504 hvtlt501)
                  have hF := FM.tr hF g506 rfl
                  refine lv_aload_n hx hb dX5_readClause_235 rfl (lv_at hl 3 rfl) ?_
                  refine lv_sipush (v := 301) hx hb dX5_readClause_236 (by decide) ?_
                  refine lv_iconst (v := 0) hx hb dX5_readClause_239 (by decide) ?_
                  have hW0 := hW.2.2.2
                  refine t_callV (As := [.int 301, .int 0]) (rest := []) E hW (c_X5_write l G cI cJ cZ cD cR cT kp L f503 hW.2.2.2 _ h0 301 0 rh0 (by decide) (z510).1) rh0 (by decide) rfl wk_X5_write tw_969 rfl ⟨Nat.le_of_ble_eq_true rfl, Nat.le_of_ble_eq_true rfl⟩ ⟨rfl, rfl⟩ hl.1 rfl (Nat.le_of_ble_eq_true rfl) dX5_readClause_240 ⟨Nat.le_of_ble_eq_true rfl, Nat.le_of_ble_eq_true rfl⟩ (fun v511 f512 H locs q513 hW => ?_)
                  obtain ⟨rfl, g514, h515⟩ := q513
                  have m516 : oR (f512 h0) 12 = pt := ((fm_R g514 rh0 rfl).trans ((fm_R g506 rh0 rfl).trans ((fm_R g65 rh0 rfl).trans ((fm_R g50 rh0 rfl).trans ((fm_R g42 rh0 rfl).trans ((fm_R g33 rh0 rfl).trans ((fm_R g25 rh0 rfl).trans m9)))))))
                  have m517 : oR (f512 h0) 7 = pE := ((fm_R g514 rh0 rfl).trans ((fm_R g506 rh0 rfl).trans ((fm_R g65 rh0 rfl).trans ((fm_R g50 rh0 rfl).trans ((fm_R g42 rh0 rfl).trans ((fm_R g33 rh0 rfl).trans ((fm_R g25 rh0 rfl).trans mE)))))))
                  have m518 : aI (f512 a36) (y1 : Int32).toNatClampNeg = 0 := ((congrArg (fun z => aI z (y1 : Int32).toNatClampNeg) (fm_A g514 r38 (by decide) rfl)).trans ((congrArg (fun z => aI z (y1 : Int32).toNatClampNeg) (fm_A g506 r38 (by decide) rfl)).trans m66))
                  have m519 : aI (f512 pS) (y1 : Int32).toNatClampNeg = y59 := ((congrArg (fun z => aI z (y1 : Int32).toNatClampNeg) (fm_A g514 rS (by decide) rfl)).trans ((congrArg (fun z => aI z (y1 : Int32).toNatClampNeg) (fm_A g506 rS (by decide) rfl)).trans (show aI (f62 pS) (y1 : Int32).toNatClampNeg = y59 from by rw [e63]; exact up_s)))
                  have hF := FM.tr hF g514 rfl
                  have z521 := rj_call z510 h515
                  refine lv_iconst (v := 1) hx hb dX5_readClause_243 (by decide) ?_
                  refine lv_istore_n (lv' := [(3, .int 1), (2, .int py), (1, .int y1), (0, .ref h0)]) hx hb dX5_readClause_244 rfl hl (by decide) rfl (fun ls hl => ?_)
                  refine lv_goto (tgt := 252) hx hb dX5_readClause_245 (by decide) ?_
                  refine lv_iload_n hx hb dX5_readClause_252 rfl (lv_at hl 0 rfl) ?_
                  refine q_if_eq (X := 1) (tgt := 302) hx hb dX5_readClause_253 (by decide) rfl (fun c => absurd c (by decide)) (fun _ => ?_)
                  refine lv_aload_n hx hb dX5_readClause_256 rfl (lv_at hl 3 rfl) ?_
                  refine fg_RX5_9 E hW rh0 dX5_readClause_257 (fun y522 m523 => ?_)
                  refine lv_iconst (v := (-1)) hx hb dX5_readClause_260 (by decide) ?_
                  refine q_icmp_ne (Y := -1) (tgt := 302) hx hb dX5_readClause_261 (by decide) rfl rfl (fun c525 => ?_) (fun c525 => ?_)
                  · refine lv_aload_n hx hb dX5_readClause_302 rfl (lv_at hl 3 rfl) ?_
                    refine fg_RX5_28 E hW rh0 dX5_readClause_303 (fun a526 m527 r528 => ?_)
                    obtain rfl : pE = a526 := (m517).symm.trans m527
                    refine lv_iload_n hx hb dX5_readClause_306 rfl (lv_at hl 2 rfl) ?_
                    refine lv_aload_n hx hb dX5_readClause_307 rfl (lv_at hl 3 rfl) ?_
                    refine fg_RX5_57 E hW rh0 dX5_readClause_308 (fun y529 m530 b531 => ?_)
                    have hW0 := hW.2.2.2
                    refine gs_407 E hW rE ⟨by omega, by omega⟩ dX5_readClause_311 (fun f532 H locs e533 n534 g535 hW => ?_)
                    have m536 : oI (f532 h0) 1 = x20 := ((fm_I g535 rh0 rfl).trans ((fm_I g514 rh0 rfl).trans ((fm_I g506 rh0 rfl).trans ((fm_I g65 rh0 rfl).trans ((fm_I g50 rh0 rfl).trans ((fm_I g42 rh0 rfl).trans ((fm_I g33 rh0 rfl).trans e23)))))))
                    have m537 : oR (f532 h0) 3 = a27 := ((fm_R g535 rh0 rfl).trans ((fm_R g514 rh0 rfl).trans ((fm_R g506 rh0 rfl).trans ((fm_R g65 rh0 rfl).trans ((fm_R g50 rh0 rfl).trans ((fm_R g42 rh0 rfl).trans ((fm_R g33 rh0 rfl).trans m28)))))))
                    have m538 : aI (f532 pt) (pa : Int32).toNatClampNeg = py := ((congrArg (fun z => aI z (pa : Int32).toNatClampNeg) (fm_A g535 rpt (by decide) rfl)).trans ((congrArg (fun z => aI z (pa : Int32).toNatClampNeg) (fm_A g514 rpt (by decide) rfl)).trans m507))
                    have m539 : aI (f532 a27) (y1 : Int32).toNatClampNeg = py := ((congrArg (fun z => aI z (y1 : Int32).toNatClampNeg) (fm_A g535 r29 (by decide) rfl)).trans ((congrArg (fun z => aI z (y1 : Int32).toNatClampNeg) (fm_A g514 r29 (by decide) rfl)).trans m508))
                    have m540 : aI (f532 a44) (y1 : Int32).toNatClampNeg = 0 := ((congrArg (fun z => aI z (y1 : Int32).toNatClampNeg) (fm_A g535 r46 (by decide) rfl)).trans ((congrArg (fun z => aI z (y1 : Int32).toNatClampNeg) (fm_A g514 r46 (by decide) rfl)).trans m509))
                    have z541 : rdJ f0 f532 h0 := rj_fm hW0 z521 g535 rh0 rfl rfl rfl rfl rfl
                    have hF := FM.tr hF g535 rfl
                    have z542 : aI (f532 pE) = upd (aI (f0 pE)) (y1 : Int32).toNatClampNeg y529 := by rw [e533, ((congrArg aI (fm_A g514 rE (by decide) rfl)).trans ((congrArg aI (fm_A g506 rE (by decide) rfl)).trans ((congrArg aI (fm_A g65 rE (by decide) rfl)).trans m55)))]
                    exact e_V E hW rfl ⟨rfl, hF, z541, (rc_end (c := y1) (w := y59) (w2 := y529) hRC (by rw [((fm_R g535 rh0 rfl).trans ((fm_R g514 rh0 rfl).trans ((fm_R g506 rh0 rfl).trans ((fm_R g65 rh0 rfl).trans m57)))), mS, ((congrArg aI (fm_A g535 rS (by decide) rfl)).trans ((congrArg aI (fm_A g514 rS (by decide) rfl)).trans ((congrArg aI (fm_A g506 rS (by decide) rfl)).trans rfl)))]; exact z68) (by rw [((fm_R g535 rh0 rfl).trans m527), mE]; exact z542) m18 (by omega) (by omega) ((fm_I g535 rh0 rfl).trans m530) z541.2 (by rw [m536]; omega))⟩ dX5_readClause_312
                  · refine lv_aload_n hx hb dX5_readClause_264 rfl (lv_at hl 3 rfl) ?_
                    refine fg_RX5_37 E hW rh0 dX5_readClause_265 (fun a543 m544 r545 => ?_)
                    obtain rfl : pt = a543 := (m516).symm.trans m544
                    refine lv_aload_n hx hb dX5_readClause_268 rfl (lv_at hl 3 rfl) ?_
                    refine fg_RX5_60 E hW rh0 dX5_readClause_269 (fun y546 m547 b548 => ?_)
                    obtain rfl : x499 = y546 := (((fm_I g514 rh0 rfl).trans e504)).symm.trans m547
                    refine gl_412 E hW rpt ⟨by omega, by omega⟩ dX5_readClause_272 (fun y549 m550 => ?_)
                    refine lv_sipush (v := 259) hx hb dX5_readClause_273 (by decide) ?_
                    refine q_icmp_ne (Y := 259) (tgt := 302) hx hb dX5_readClause_276 (by decide) rfl rfl (fun c552 => ?_) (fun c552 => ?_)
                    · refine lv_aload_n hx hb dX5_readClause_302 rfl (lv_at hl 3 rfl) ?_
                      refine fg_RX5_28 E hW rh0 dX5_readClause_303 (fun a553 m554 r555 => ?_)
                      obtain rfl : pE = a553 := (m517).symm.trans m554
                      refine lv_iload_n hx hb dX5_readClause_306 rfl (lv_at hl 2 rfl) ?_
                      refine lv_aload_n hx hb dX5_readClause_307 rfl (lv_at hl 3 rfl) ?_
                      refine fg_RX5_57 E hW rh0 dX5_readClause_308 (fun y556 m557 b558 => ?_)
                      have hW0 := hW.2.2.2
                      refine gs_407 E hW rE ⟨by omega, by omega⟩ dX5_readClause_311 (fun f559 H locs e560 n561 g562 hW => ?_)
                      have m563 : oI (f559 h0) 1 = x20 := ((fm_I g562 rh0 rfl).trans ((fm_I g514 rh0 rfl).trans ((fm_I g506 rh0 rfl).trans ((fm_I g65 rh0 rfl).trans ((fm_I g50 rh0 rfl).trans ((fm_I g42 rh0 rfl).trans ((fm_I g33 rh0 rfl).trans e23)))))))
                      have m564 : oR (f559 h0) 3 = a27 := ((fm_R g562 rh0 rfl).trans ((fm_R g514 rh0 rfl).trans ((fm_R g506 rh0 rfl).trans ((fm_R g65 rh0 rfl).trans ((fm_R g50 rh0 rfl).trans ((fm_R g42 rh0 rfl).trans ((fm_R g33 rh0 rfl).trans m28)))))))
                      have m565 : aI (f559 pt) (pa : Int32).toNatClampNeg = py := ((congrArg (fun z => aI z (pa : Int32).toNatClampNeg) (fm_A g562 rpt (by decide) rfl)).trans ((congrArg (fun z => aI z (pa : Int32).toNatClampNeg) (fm_A g514 rpt (by decide) rfl)).trans m507))
                      have m566 : aI (f559 a27) (y1 : Int32).toNatClampNeg = py := ((congrArg (fun z => aI z (y1 : Int32).toNatClampNeg) (fm_A g562 r29 (by decide) rfl)).trans ((congrArg (fun z => aI z (y1 : Int32).toNatClampNeg) (fm_A g514 r29 (by decide) rfl)).trans m508))
                      have m567 : aI (f559 a44) (y1 : Int32).toNatClampNeg = 0 := ((congrArg (fun z => aI z (y1 : Int32).toNatClampNeg) (fm_A g562 r46 (by decide) rfl)).trans ((congrArg (fun z => aI z (y1 : Int32).toNatClampNeg) (fm_A g514 r46 (by decide) rfl)).trans m509))
                      have z568 : rdJ f0 f559 h0 := rj_fm hW0 z521 g562 rh0 rfl rfl rfl rfl rfl
                      have hF := FM.tr hF g562 rfl
                      have z569 : aI (f559 pE) = upd (aI (f0 pE)) (y1 : Int32).toNatClampNeg y556 := by rw [e560, ((congrArg aI (fm_A g514 rE (by decide) rfl)).trans ((congrArg aI (fm_A g506 rE (by decide) rfl)).trans ((congrArg aI (fm_A g65 rE (by decide) rfl)).trans m55)))]
                      exact e_V E hW rfl ⟨rfl, hF, z568, (rc_end (c := y1) (w := y59) (w2 := y556) hRC (by rw [((fm_R g562 rh0 rfl).trans ((fm_R g514 rh0 rfl).trans ((fm_R g506 rh0 rfl).trans ((fm_R g65 rh0 rfl).trans m57)))), mS, ((congrArg aI (fm_A g562 rS (by decide) rfl)).trans ((congrArg aI (fm_A g514 rS (by decide) rfl)).trans ((congrArg aI (fm_A g506 rS (by decide) rfl)).trans rfl)))]; exact z68) (by rw [((fm_R g562 rh0 rfl).trans m554), mE]; exact z569) m18 (by omega) (by omega) ((fm_I g562 rh0 rfl).trans m557) z568.2 (by rw [m563]; omega))⟩ dX5_readClause_312
                    · refine lv_aload_n hx hb dX5_readClause_279 rfl (lv_at hl 3 rfl) ?_
                      refine lv_dup hx hb dX5_readClause_280 rfl ?_
                      refine fg_RX5_60 E hW rh0 dX5_readClause_281 (fun y570 m571 b572 => ?_)
                      obtain rfl : x499 = y570 := (m547).symm.trans m571
                      refine lv_iconst (v := 1) hx hb dX5_readClause_284 (by decide) ?_
                      refine q_iadd (Y := 1) hx hb dX5_readClause_285 rfl rfl (by omega) (fun x573 h574 => ?_)
                      have lt575 : x499.toInt < (oI (f512 h0) 11).toInt := ri_lt z521.1 m571 m544 m550 (by omega)
                      have le576 := tok_le hW rh0
                      have hvtlt575 : x573.toInt ≤ (oI (f512 h0) 11).toInt := by omega
                      have hW0 := hW.2.2.2
                      refine fp_RX5_60 E hW rh0 (by omega) dX5_readClause_286 (fun f577 H locs e578 n579 g580 hW => ?_)
                      have m581 : oI (f577 h0) 1 = x20 := ((fm_I g580 rh0 rfl).trans ((fm_I g514 rh0 rfl).trans ((fm_I g506 rh0 rfl).trans ((fm_I g65 rh0 rfl).trans ((fm_I g50 rh0 rfl).trans ((fm_I g42 rh0 rfl).trans ((fm_I g33 rh0 rfl).trans e23)))))))
                      have m582 : oR (f577 h0) 3 = a27 := ((fm_R g580 rh0 rfl).trans ((fm_R g514 rh0 rfl).trans ((fm_R g506 rh0 rfl).trans ((fm_R g65 rh0 rfl).trans ((fm_R g50 rh0 rfl).trans ((fm_R g42 rh0 rfl).trans ((fm_R g33 rh0 rfl).trans m28)))))))
                      have m583 : aI (f577 pt) (pa : Int32).toNatClampNeg = py := ((congrArg (fun z => aI z (pa : Int32).toNatClampNeg) (fm_A g580 rpt (by decide) rfl)).trans ((congrArg (fun z => aI z (pa : Int32).toNatClampNeg) (fm_A g514 rpt (by decide) rfl)).trans m507))
                      have m584 : aI (f577 a27) (y1 : Int32).toNatClampNeg = py := ((congrArg (fun z => aI z (y1 : Int32).toNatClampNeg) (fm_A g580 r29 (by decide) rfl)).trans ((congrArg (fun z => aI z (y1 : Int32).toNatClampNeg) (fm_A g514 r29 (by decide) rfl)).trans m508))
                      have m585 : aI (f577 a44) (y1 : Int32).toNatClampNeg = 0 := ((congrArg (fun z => aI z (y1 : Int32).toNatClampNeg) (fm_A g580 r46 (by decide) rfl)).trans ((congrArg (fun z => aI z (y1 : Int32).toNatClampNeg) (fm_A g514 r46 (by decide) rfl)).trans m509))
                      have z586 : rdJ f0 f577 h0 := (rj_at hW0 z521 g580 rh0 e578 hvtlt575)
                      have m587 : aI (f577 pE) = aI (f0 pE) := ((congrArg aI (fm_A g580 rE (by decide) rfl)).trans ((congrArg aI (fm_A g514 rE (by decide) rfl)).trans ((congrArg aI (fm_A g506 rE (by decide) rfl)).trans ((congrArg aI (fm_A g65 rE (by decide) rfl)).trans m55))))
                      have hF := FM.tr hF g580 rfl
                      refine lv_aload_n hx hb dX5_readClause_289 rfl (lv_at hl 3 rfl) ?_
                      refine lv_iconst (v := 0) hx hb dX5_readClause_290 (by decide) ?_
                      have hW0 := hW.2.2.2
                      refine t_callV (As := [.int 0]) (rest := []) E hW (c_X5_readTest_0 l G cI cJ cZ cD cR cT kp L f577 hW.2.2.2 _ h0 rh0 (z586).1) rh0 (by decide) rfl wk_X5_readTest tw_973 rfl ⟨Nat.le_of_ble_eq_true rfl, Nat.le_of_ble_eq_true rfl⟩ ⟨rfl, rfl⟩ hl.1 rfl (Nat.le_of_ble_eq_true rfl) dX5_readClause_291 ⟨Nat.le_of_ble_eq_true rfl, Nat.le_of_ble_eq_true rfl⟩ (fun v588 f589 H locs q590 hW => ?_)
                      obtain ⟨rfl, g591, h592⟩ := q590
                      have m593 : oR (f589 h0) 4 = a36 := ((fm_R g591 rh0 rfl).trans ((fm_R g580 rh0 rfl).trans ((fm_R g514 rh0 rfl).trans ((fm_R g506 rh0 rfl).trans ((fm_R g65 rh0 rfl).trans ((fm_R g50 rh0 rfl).trans ((fm_R g42 rh0 rfl).trans m37)))))))
                      have m594 : aI (f589 a36) (y1 : Int32).toNatClampNeg = 0 := ((congrArg (fun z => aI z (y1 : Int32).toNatClampNeg) (fm_A g591 r38 (by decide) rfl)).trans ((congrArg (fun z => aI z (y1 : Int32).toNatClampNeg) (fm_A g580 r38 (by decide) rfl)).trans m518))
                      have m595 : aI (f589 pS) (y1 : Int32).toNatClampNeg = y59 := ((congrArg (fun z => aI z (y1 : Int32).toNatClampNeg) (fm_A g591 rS (by decide) rfl)).trans ((congrArg (fun z => aI z (y1 : Int32).toNatClampNeg) (fm_A g580 rS (by decide) rfl)).trans m519))
                      have m596 : aI (f589 pt) (x499 : Int32).toNatClampNeg = y549 := ((congrArg (fun z => aI z (x499 : Int32).toNatClampNeg) (fm_A g591 rpt (by decide) rfl)).trans ((congrArg (fun z => aI z (x499 : Int32).toNatClampNeg) (fm_A g580 rpt (by decide) rfl)).trans m550))
                      have m598 : aI (f589 pS) = aI (f62 pS) := ((congrArg aI (fm_A g591 rS (by decide) rfl)).trans ((congrArg aI (fm_A g580 rS (by decide) rfl)).trans ((congrArg aI (fm_A g514 rS (by decide) rfl)).trans ((congrArg aI (fm_A g506 rS (by decide) rfl)).trans rfl))))
                      have hF := FM.tr hF g591 rfl
                      have z599 := rj_call z586 h592
                      refine lv_aload_n hx hb dX5_readClause_294 rfl (lv_at hl 3 rfl) ?_
                      refine lv_sipush (v := 259) hx hb dX5_readClause_295 (by decide) ?_
                      refine lv_iconst (v := 0) hx hb dX5_readClause_298 (by decide) ?_
                      have hW0 := hW.2.2.2
                      refine t_callV (As := [.int 259, .int 0]) (rest := []) E hW (c_X5_write l G cI cJ cZ cD cR cT kp L f589 hW.2.2.2 _ h0 259 0 rh0 (by decide) (z599).1) rh0 (by decide) rfl wk_X5_write tw_969 rfl ⟨Nat.le_of_ble_eq_true rfl, Nat.le_of_ble_eq_true rfl⟩ ⟨rfl, rfl⟩ hl.1 rfl (Nat.le_of_ble_eq_true rfl) dX5_readClause_299 ⟨Nat.le_of_ble_eq_true rfl, Nat.le_of_ble_eq_true rfl⟩ (fun v600 f601 H locs q602 hW => ?_)
                      obtain ⟨rfl, g603, h604⟩ := q602
                      have m605 : oR (f601 h0) 5 = a44 := ((fm_R g603 rh0 rfl).trans ((fm_R g591 rh0 rfl).trans ((fm_R g580 rh0 rfl).trans ((fm_R g514 rh0 rfl).trans ((fm_R g506 rh0 rfl).trans ((fm_R g65 rh0 rfl).trans ((fm_R g50 rh0 rfl).trans m45)))))))
                      have m606 : aI (f601 pt) (pa : Int32).toNatClampNeg = py := ((congrArg (fun z => aI z (pa : Int32).toNatClampNeg) (fm_A g603 rpt (by decide) rfl)).trans ((congrArg (fun z => aI z (pa : Int32).toNatClampNeg) (fm_A g591 rpt (by decide) rfl)).trans m583))
                      have m607 : aI (f601 a27) (y1 : Int32).toNatClampNeg = py := ((congrArg (fun z => aI z (y1 : Int32).toNatClampNeg) (fm_A g603 r29 (by decide) rfl)).trans ((congrArg (fun z => aI z (y1 : Int32).toNatClampNeg) (fm_A g591 r29 (by decide) rfl)).trans m584))
                      have m608 : aI (f601 a44) (y1 : Int32).toNatClampNeg = 0 := ((congrArg (fun z => aI z (y1 : Int32).toNatClampNeg) (fm_A g603 r46 (by decide) rfl)).trans ((congrArg (fun z => aI z (y1 : Int32).toNatClampNeg) (fm_A g591 r46 (by decide) rfl)).trans m585))
                      have hF := FM.tr hF g603 rfl
                      have z610 := rj_call z599 h604
                      refine lv_aload_n hx hb dX5_readClause_302 rfl (lv_at hl 3 rfl) ?_
                      refine fg_RX5_28 E hW rh0 dX5_readClause_303 (fun a611 m612 r613 => ?_)
                      obtain rfl : pE = a611 := (((fm_R g603 rh0 rfl).trans ((fm_R g591 rh0 rfl).trans ((fm_R g580 rh0 rfl).trans m517)))).symm.trans m612
                      refine lv_iload_n hx hb dX5_readClause_306 rfl (lv_at hl 2 rfl) ?_
                      refine lv_aload_n hx hb dX5_readClause_307 rfl (lv_at hl 3 rfl) ?_
                      refine fg_RX5_57 E hW rh0 dX5_readClause_308 (fun y614 m615 b616 => ?_)
                      have hW0 := hW.2.2.2
                      refine gs_407 E hW rE ⟨by omega, by omega⟩ dX5_readClause_311 (fun f617 H locs e618 n619 g620 hW => ?_)
                      have m621 : oR (f617 h0) 6 = pS := ((fm_R g620 rh0 rfl).trans ((fm_R g603 rh0 rfl).trans ((fm_R g591 rh0 rfl).trans ((fm_R g580 rh0 rfl).trans ((fm_R g514 rh0 rfl).trans ((fm_R g506 rh0 rfl).trans ((fm_R g65 rh0 rfl).trans m57)))))))
                      have m622 : aI (f617 a36) (y1 : Int32).toNatClampNeg = 0 := ((congrArg (fun z => aI z (y1 : Int32).toNatClampNeg) (fm_A g620 r38 (by decide) rfl)).trans ((congrArg (fun z => aI z (y1 : Int32).toNatClampNeg) (fm_A g603 r38 (by decide) rfl)).trans m594))
                      have m623 : aI (f617 pS) (y1 : Int32).toNatClampNeg = y59 := ((congrArg (fun z => aI z (y1 : Int32).toNatClampNeg) (fm_A g620 rS (by decide) rfl)).trans ((congrArg (fun z => aI z (y1 : Int32).toNatClampNeg) (fm_A g603 rS (by decide) rfl)).trans m595))
                      have m624 : aI (f617 pt) (x499 : Int32).toNatClampNeg = y549 := ((congrArg (fun z => aI z (x499 : Int32).toNatClampNeg) (fm_A g620 rpt (by decide) rfl)).trans ((congrArg (fun z => aI z (x499 : Int32).toNatClampNeg) (fm_A g603 rpt (by decide) rfl)).trans m596))
                      have z625 : rdJ f0 f617 h0 := rj_fm hW0 z610 g620 rh0 rfl rfl rfl rfl rfl
                      have hF := FM.tr hF g620 rfl
                      have z626 : aI (f617 pE) = upd (aI (f0 pE)) (y1 : Int32).toNatClampNeg y614 := by rw [e618, ((congrArg aI (fm_A g603 rE (by decide) rfl)).trans ((congrArg aI (fm_A g591 rE (by decide) rfl)).trans m587))]
                      exact e_V E hW rfl ⟨rfl, hF, z625, (rc_end (c := y1) (w := y59) (w2 := y614) hRC (by rw [m621, mS, ((congrArg aI (fm_A g620 rS (by decide) rfl)).trans ((congrArg aI (fm_A g603 rS (by decide) rfl)).trans m598))]; exact z68) (by rw [((fm_R g620 rh0 rfl).trans m612), mE]; exact z626) m18 (by omega) (by omega) ((fm_I g620 rh0 rfl).trans m615) z625.2 (by rw [((fm_I g620 rh0 rfl).trans ((fm_I g603 rh0 rfl).trans ((fm_I g591 rh0 rfl).trans m581)))]; omega))⟩ dX5_readClause_312
          · refine lv_aload_n hx hb dX5_readClause_184 rfl (lv_at hl 3 rfl) ?_
            refine lv_dup hx hb dX5_readClause_185 rfl ?_
            refine fg_RX5_60 E hW rh0 dX5_readClause_186 (fun y627 m628 b629 => ?_)
            obtain rfl : pa = y627 := (((fm_I g65 rh0 rfl).trans ((fm_I g50 rh0 rfl).trans ((fm_I g42 rh0 rfl).trans ((fm_I g33 rh0 rfl).trans ((fm_I g25 rh0 rfl).trans m12)))))).symm.trans m628
            refine lv_iconst (v := 1) hx hb dX5_readClause_189 (by decide) ?_
            refine q_iadd (Y := 1) hx hb dX5_readClause_190 rfl rfl (by omega) (fun x630 h631 => ?_)
            have lt632 : pa.toInt < (oI (f62 h0) 11).toInt := ri_lt z67.1 m628 ((fm_R g65 rh0 rfl).trans ((fm_R g50 rh0 rfl).trans ((fm_R g42 rh0 rfl).trans ((fm_R g33 rh0 rfl).trans ((fm_R g25 rh0 rfl).trans m9))))) ((congrArg (fun z => aI z (pa : Int32).toNatClampNeg) (fm_A g65 rpt (by decide) rfl)).trans m51) (by omega)
            have le633 := tok_le hW rh0
            have hvtlt632 : x630.toInt ≤ (oI (f62 h0) 11).toInt := by omega
            have hW0 := hW.2.2.2
            refine fp_RX5_60 E hW rh0 (by omega) dX5_readClause_191 (fun f634 H locs e635 n636 g637 hW => ?_)
            have m638 : aI (f634 pt) (pa : Int32).toNatClampNeg = py := ((congrArg (fun z => aI z (pa : Int32).toNatClampNeg) (fm_A g637 rpt (by decide) rfl)).trans ((congrArg (fun z => aI z (pa : Int32).toNatClampNeg) (fm_A g65 rpt (by decide) rfl)).trans m51))
            have m639 : aI (f634 a27) (y1 : Int32).toNatClampNeg = py := ((congrArg (fun z => aI z (y1 : Int32).toNatClampNeg) (fm_A g637 r29 (by decide) rfl)).trans ((congrArg (fun z => aI z (y1 : Int32).toNatClampNeg) (fm_A g65 r29 (by decide) rfl)).trans m52))
            have m640 : aI (f634 a44) (y1 : Int32).toNatClampNeg = 0 := ((congrArg (fun z => aI z (y1 : Int32).toNatClampNeg) (fm_A g637 r46 (by decide) rfl)).trans ((congrArg (fun z => aI z (y1 : Int32).toNatClampNeg) (fm_A g65 r46 (by decide) rfl)).trans (show aI (f47 a44) (y1 : Int32).toNatClampNeg = 0 from by rw [e48]; exact up_s)))
            have z641 : rdJ f0 f634 h0 := (rj_at hW0 z67 g637 rh0 e635 hvtlt632)
            have hF := FM.tr hF g637 rfl
            refine lv_aload_n hx hb dX5_readClause_194 rfl (lv_at hl 3 rfl) ?_
            refine lv_iconst (v := 0) hx hb dX5_readClause_195 (by decide) ?_
            have hW0 := hW.2.2.2
            refine t_callV (As := [.int 0]) (rest := []) E hW (c_X5_readSum_0 l G cI cJ cZ cD cR cT kp L f634 hW.2.2.2 _ h0 rh0 (z641).1) rh0 (by decide) rfl wk_X5_readSum tw_953 rfl ⟨Nat.le_of_ble_eq_true rfl, Nat.le_of_ble_eq_true rfl⟩ ⟨rfl, rfl⟩ hl.1 rfl (Nat.le_of_ble_eq_true rfl) dX5_readClause_196 ⟨Nat.le_of_ble_eq_true rfl, Nat.le_of_ble_eq_true rfl⟩ (fun v642 f643 H locs q644 hW => ?_)
            obtain ⟨rfl, g645, h646⟩ := q644
            have m647 : oR (f643 h0) 12 = pt := ((fm_R g645 rh0 rfl).trans ((fm_R g637 rh0 rfl).trans ((fm_R g65 rh0 rfl).trans ((fm_R g50 rh0 rfl).trans ((fm_R g42 rh0 rfl).trans ((fm_R g33 rh0 rfl).trans ((fm_R g25 rh0 rfl).trans m9)))))))
            have m648 : oR (f643 h0) 7 = pE := ((fm_R g645 rh0 rfl).trans ((fm_R g637 rh0 rfl).trans ((fm_R g65 rh0 rfl).trans ((fm_R g50 rh0 rfl).trans ((fm_R g42 rh0 rfl).trans ((fm_R g33 rh0 rfl).trans ((fm_R g25 rh0 rfl).trans mE)))))))
            have m649 : aI (f643 a36) (y1 : Int32).toNatClampNeg = 0 := ((congrArg (fun z => aI z (y1 : Int32).toNatClampNeg) (fm_A g645 r38 (by decide) rfl)).trans ((congrArg (fun z => aI z (y1 : Int32).toNatClampNeg) (fm_A g637 r38 (by decide) rfl)).trans m66))
            have m650 : aI (f643 pS) (y1 : Int32).toNatClampNeg = y59 := ((congrArg (fun z => aI z (y1 : Int32).toNatClampNeg) (fm_A g645 rS (by decide) rfl)).trans ((congrArg (fun z => aI z (y1 : Int32).toNatClampNeg) (fm_A g637 rS (by decide) rfl)).trans (show aI (f62 pS) (y1 : Int32).toNatClampNeg = y59 from by rw [e63]; exact up_s)))
            have hF := FM.tr hF g645 rfl
            have z652 := rj_call z641 h646
            refine lv_iconst (v := 1) hx hb dX5_readClause_199 (by decide) ?_
            refine lv_istore_n (lv' := [(3, .int 1), (2, .int py), (1, .int y1), (0, .ref h0)]) hx hb dX5_readClause_200 rfl hl (by decide) rfl (fun ls hl => ?_)
            refine lv_goto (tgt := 252) hx hb dX5_readClause_201 (by decide) ?_
            refine lv_iload_n hx hb dX5_readClause_252 rfl (lv_at hl 0 rfl) ?_
            refine q_if_eq (X := 1) (tgt := 302) hx hb dX5_readClause_253 (by decide) rfl (fun c => absurd c (by decide)) (fun _ => ?_)
            refine lv_aload_n hx hb dX5_readClause_256 rfl (lv_at hl 3 rfl) ?_
            refine fg_RX5_9 E hW rh0 dX5_readClause_257 (fun y653 m654 => ?_)
            refine lv_iconst (v := (-1)) hx hb dX5_readClause_260 (by decide) ?_
            refine q_icmp_ne (Y := -1) (tgt := 302) hx hb dX5_readClause_261 (by decide) rfl rfl (fun c656 => ?_) (fun c656 => ?_)
            · refine lv_aload_n hx hb dX5_readClause_302 rfl (lv_at hl 3 rfl) ?_
              refine fg_RX5_28 E hW rh0 dX5_readClause_303 (fun a657 m658 r659 => ?_)
              obtain rfl : pE = a657 := (m648).symm.trans m658
              refine lv_iload_n hx hb dX5_readClause_306 rfl (lv_at hl 2 rfl) ?_
              refine lv_aload_n hx hb dX5_readClause_307 rfl (lv_at hl 3 rfl) ?_
              refine fg_RX5_57 E hW rh0 dX5_readClause_308 (fun y660 m661 b662 => ?_)
              have hW0 := hW.2.2.2
              refine gs_407 E hW rE ⟨by omega, by omega⟩ dX5_readClause_311 (fun f663 H locs e664 n665 g666 hW => ?_)
              have m667 : oI (f663 h0) 1 = x20 := ((fm_I g666 rh0 rfl).trans ((fm_I g645 rh0 rfl).trans ((fm_I g637 rh0 rfl).trans ((fm_I g65 rh0 rfl).trans ((fm_I g50 rh0 rfl).trans ((fm_I g42 rh0 rfl).trans ((fm_I g33 rh0 rfl).trans e23)))))))
              have m668 : oR (f663 h0) 3 = a27 := ((fm_R g666 rh0 rfl).trans ((fm_R g645 rh0 rfl).trans ((fm_R g637 rh0 rfl).trans ((fm_R g65 rh0 rfl).trans ((fm_R g50 rh0 rfl).trans ((fm_R g42 rh0 rfl).trans ((fm_R g33 rh0 rfl).trans m28)))))))
              have m669 : aI (f663 pt) (pa : Int32).toNatClampNeg = py := ((congrArg (fun z => aI z (pa : Int32).toNatClampNeg) (fm_A g666 rpt (by decide) rfl)).trans ((congrArg (fun z => aI z (pa : Int32).toNatClampNeg) (fm_A g645 rpt (by decide) rfl)).trans m638))
              have m670 : aI (f663 a27) (y1 : Int32).toNatClampNeg = py := ((congrArg (fun z => aI z (y1 : Int32).toNatClampNeg) (fm_A g666 r29 (by decide) rfl)).trans ((congrArg (fun z => aI z (y1 : Int32).toNatClampNeg) (fm_A g645 r29 (by decide) rfl)).trans m639))
              have m671 : aI (f663 a44) (y1 : Int32).toNatClampNeg = 0 := ((congrArg (fun z => aI z (y1 : Int32).toNatClampNeg) (fm_A g666 r46 (by decide) rfl)).trans ((congrArg (fun z => aI z (y1 : Int32).toNatClampNeg) (fm_A g645 r46 (by decide) rfl)).trans m640))
              have z672 : rdJ f0 f663 h0 := rj_fm hW0 z652 g666 rh0 rfl rfl rfl rfl rfl
              have hF := FM.tr hF g666 rfl
              have z673 : aI (f663 pE) = upd (aI (f0 pE)) (y1 : Int32).toNatClampNeg y660 := by rw [e664, ((congrArg aI (fm_A g645 rE (by decide) rfl)).trans ((congrArg aI (fm_A g637 rE (by decide) rfl)).trans ((congrArg aI (fm_A g65 rE (by decide) rfl)).trans m55)))]
              exact e_V E hW rfl ⟨rfl, hF, z672, (rc_end (c := y1) (w := y59) (w2 := y660) hRC (by rw [((fm_R g666 rh0 rfl).trans ((fm_R g645 rh0 rfl).trans ((fm_R g637 rh0 rfl).trans ((fm_R g65 rh0 rfl).trans m57)))), mS, ((congrArg aI (fm_A g666 rS (by decide) rfl)).trans ((congrArg aI (fm_A g645 rS (by decide) rfl)).trans ((congrArg aI (fm_A g637 rS (by decide) rfl)).trans rfl)))]; exact z68) (by rw [((fm_R g666 rh0 rfl).trans m658), mE]; exact z673) m18 (by omega) (by omega) ((fm_I g666 rh0 rfl).trans m661) z672.2 (by rw [m667]; omega))⟩ dX5_readClause_312
            · refine lv_aload_n hx hb dX5_readClause_264 rfl (lv_at hl 3 rfl) ?_
              refine fg_RX5_37 E hW rh0 dX5_readClause_265 (fun a674 m675 r676 => ?_)
              obtain rfl : pt = a674 := (m647).symm.trans m675
              refine lv_aload_n hx hb dX5_readClause_268 rfl (lv_at hl 3 rfl) ?_
              refine fg_RX5_60 E hW rh0 dX5_readClause_269 (fun y677 m678 b679 => ?_)
              refine gl_412 E hW rpt ⟨by omega, by omega⟩ dX5_readClause_272 (fun y680 m681 => ?_)
              refine lv_sipush (v := 259) hx hb dX5_readClause_273 (by decide) ?_
              refine q_icmp_ne (Y := 259) (tgt := 302) hx hb dX5_readClause_276 (by decide) rfl rfl (fun c683 => ?_) (fun c683 => ?_)
              · refine lv_aload_n hx hb dX5_readClause_302 rfl (lv_at hl 3 rfl) ?_
                refine fg_RX5_28 E hW rh0 dX5_readClause_303 (fun a684 m685 r686 => ?_)
                obtain rfl : pE = a684 := (m648).symm.trans m685
                refine lv_iload_n hx hb dX5_readClause_306 rfl (lv_at hl 2 rfl) ?_
                refine lv_aload_n hx hb dX5_readClause_307 rfl (lv_at hl 3 rfl) ?_
                refine fg_RX5_57 E hW rh0 dX5_readClause_308 (fun y687 m688 b689 => ?_)
                have hW0 := hW.2.2.2
                refine gs_407 E hW rE ⟨by omega, by omega⟩ dX5_readClause_311 (fun f690 H locs e691 n692 g693 hW => ?_)
                have m694 : oI (f690 h0) 1 = x20 := ((fm_I g693 rh0 rfl).trans ((fm_I g645 rh0 rfl).trans ((fm_I g637 rh0 rfl).trans ((fm_I g65 rh0 rfl).trans ((fm_I g50 rh0 rfl).trans ((fm_I g42 rh0 rfl).trans ((fm_I g33 rh0 rfl).trans e23)))))))
                have m695 : oR (f690 h0) 3 = a27 := ((fm_R g693 rh0 rfl).trans ((fm_R g645 rh0 rfl).trans ((fm_R g637 rh0 rfl).trans ((fm_R g65 rh0 rfl).trans ((fm_R g50 rh0 rfl).trans ((fm_R g42 rh0 rfl).trans ((fm_R g33 rh0 rfl).trans m28)))))))
                have m696 : aI (f690 pt) (pa : Int32).toNatClampNeg = py := ((congrArg (fun z => aI z (pa : Int32).toNatClampNeg) (fm_A g693 rpt (by decide) rfl)).trans ((congrArg (fun z => aI z (pa : Int32).toNatClampNeg) (fm_A g645 rpt (by decide) rfl)).trans m638))
                have m697 : aI (f690 a27) (y1 : Int32).toNatClampNeg = py := ((congrArg (fun z => aI z (y1 : Int32).toNatClampNeg) (fm_A g693 r29 (by decide) rfl)).trans ((congrArg (fun z => aI z (y1 : Int32).toNatClampNeg) (fm_A g645 r29 (by decide) rfl)).trans m639))
                have m698 : aI (f690 a44) (y1 : Int32).toNatClampNeg = 0 := ((congrArg (fun z => aI z (y1 : Int32).toNatClampNeg) (fm_A g693 r46 (by decide) rfl)).trans ((congrArg (fun z => aI z (y1 : Int32).toNatClampNeg) (fm_A g645 r46 (by decide) rfl)).trans m640))
                have z699 : rdJ f0 f690 h0 := rj_fm hW0 z652 g693 rh0 rfl rfl rfl rfl rfl
                have hF := FM.tr hF g693 rfl
                have z700 : aI (f690 pE) = upd (aI (f0 pE)) (y1 : Int32).toNatClampNeg y687 := by rw [e691, ((congrArg aI (fm_A g645 rE (by decide) rfl)).trans ((congrArg aI (fm_A g637 rE (by decide) rfl)).trans ((congrArg aI (fm_A g65 rE (by decide) rfl)).trans m55)))]
                exact e_V E hW rfl ⟨rfl, hF, z699, (rc_end (c := y1) (w := y59) (w2 := y687) hRC (by rw [((fm_R g693 rh0 rfl).trans ((fm_R g645 rh0 rfl).trans ((fm_R g637 rh0 rfl).trans ((fm_R g65 rh0 rfl).trans m57)))), mS, ((congrArg aI (fm_A g693 rS (by decide) rfl)).trans ((congrArg aI (fm_A g645 rS (by decide) rfl)).trans ((congrArg aI (fm_A g637 rS (by decide) rfl)).trans rfl)))]; exact z68) (by rw [((fm_R g693 rh0 rfl).trans m685), mE]; exact z700) m18 (by omega) (by omega) ((fm_I g693 rh0 rfl).trans m688) z699.2 (by rw [m694]; omega))⟩ dX5_readClause_312
              · refine lv_aload_n hx hb dX5_readClause_279 rfl (lv_at hl 3 rfl) ?_
                refine lv_dup hx hb dX5_readClause_280 rfl ?_
                refine fg_RX5_60 E hW rh0 dX5_readClause_281 (fun y701 m702 b703 => ?_)
                obtain rfl : y677 = y701 := (m678).symm.trans m702
                refine lv_iconst (v := 1) hx hb dX5_readClause_284 (by decide) ?_
                refine q_iadd (Y := 1) hx hb dX5_readClause_285 rfl rfl (by omega) (fun x704 h705 => ?_)
                have lt706 : y677.toInt < (oI (f643 h0) 11).toInt := ri_lt z652.1 m702 m675 m681 (by omega)
                have le707 := tok_le hW rh0
                have hvtlt706 : x704.toInt ≤ (oI (f643 h0) 11).toInt := by omega
                have hW0 := hW.2.2.2
                refine fp_RX5_60 E hW rh0 (by omega) dX5_readClause_286 (fun f708 H locs e709 n710 g711 hW => ?_)
                have m712 : oI (f708 h0) 1 = x20 := ((fm_I g711 rh0 rfl).trans ((fm_I g645 rh0 rfl).trans ((fm_I g637 rh0 rfl).trans ((fm_I g65 rh0 rfl).trans ((fm_I g50 rh0 rfl).trans ((fm_I g42 rh0 rfl).trans ((fm_I g33 rh0 rfl).trans e23)))))))
                have m713 : oR (f708 h0) 3 = a27 := ((fm_R g711 rh0 rfl).trans ((fm_R g645 rh0 rfl).trans ((fm_R g637 rh0 rfl).trans ((fm_R g65 rh0 rfl).trans ((fm_R g50 rh0 rfl).trans ((fm_R g42 rh0 rfl).trans ((fm_R g33 rh0 rfl).trans m28)))))))
                have m714 : aI (f708 pt) (pa : Int32).toNatClampNeg = py := ((congrArg (fun z => aI z (pa : Int32).toNatClampNeg) (fm_A g711 rpt (by decide) rfl)).trans ((congrArg (fun z => aI z (pa : Int32).toNatClampNeg) (fm_A g645 rpt (by decide) rfl)).trans m638))
                have m715 : aI (f708 a27) (y1 : Int32).toNatClampNeg = py := ((congrArg (fun z => aI z (y1 : Int32).toNatClampNeg) (fm_A g711 r29 (by decide) rfl)).trans ((congrArg (fun z => aI z (y1 : Int32).toNatClampNeg) (fm_A g645 r29 (by decide) rfl)).trans m639))
                have m716 : aI (f708 a44) (y1 : Int32).toNatClampNeg = 0 := ((congrArg (fun z => aI z (y1 : Int32).toNatClampNeg) (fm_A g711 r46 (by decide) rfl)).trans ((congrArg (fun z => aI z (y1 : Int32).toNatClampNeg) (fm_A g645 r46 (by decide) rfl)).trans m640))
                have z717 : rdJ f0 f708 h0 := (rj_at hW0 z652 g711 rh0 e709 hvtlt706)
                have m718 : aI (f708 pE) = aI (f0 pE) := ((congrArg aI (fm_A g711 rE (by decide) rfl)).trans ((congrArg aI (fm_A g645 rE (by decide) rfl)).trans ((congrArg aI (fm_A g637 rE (by decide) rfl)).trans ((congrArg aI (fm_A g65 rE (by decide) rfl)).trans m55))))
                have hF := FM.tr hF g711 rfl
                refine lv_aload_n hx hb dX5_readClause_289 rfl (lv_at hl 3 rfl) ?_
                refine lv_iconst (v := 0) hx hb dX5_readClause_290 (by decide) ?_
                have hW0 := hW.2.2.2
                refine t_callV (As := [.int 0]) (rest := []) E hW (c_X5_readTest_0 l G cI cJ cZ cD cR cT kp L f708 hW.2.2.2 _ h0 rh0 (z717).1) rh0 (by decide) rfl wk_X5_readTest tw_973 rfl ⟨Nat.le_of_ble_eq_true rfl, Nat.le_of_ble_eq_true rfl⟩ ⟨rfl, rfl⟩ hl.1 rfl (Nat.le_of_ble_eq_true rfl) dX5_readClause_291 ⟨Nat.le_of_ble_eq_true rfl, Nat.le_of_ble_eq_true rfl⟩ (fun v719 f720 H locs q721 hW => ?_)
                obtain ⟨rfl, g722, h723⟩ := q721
                have m724 : oR (f720 h0) 4 = a36 := ((fm_R g722 rh0 rfl).trans ((fm_R g711 rh0 rfl).trans ((fm_R g645 rh0 rfl).trans ((fm_R g637 rh0 rfl).trans ((fm_R g65 rh0 rfl).trans ((fm_R g50 rh0 rfl).trans ((fm_R g42 rh0 rfl).trans m37)))))))
                have m725 : aI (f720 a36) (y1 : Int32).toNatClampNeg = 0 := ((congrArg (fun z => aI z (y1 : Int32).toNatClampNeg) (fm_A g722 r38 (by decide) rfl)).trans ((congrArg (fun z => aI z (y1 : Int32).toNatClampNeg) (fm_A g711 r38 (by decide) rfl)).trans m649))
                have m726 : aI (f720 pS) (y1 : Int32).toNatClampNeg = y59 := ((congrArg (fun z => aI z (y1 : Int32).toNatClampNeg) (fm_A g722 rS (by decide) rfl)).trans ((congrArg (fun z => aI z (y1 : Int32).toNatClampNeg) (fm_A g711 rS (by decide) rfl)).trans m650))
                have m727 : aI (f720 pt) (y677 : Int32).toNatClampNeg = y680 := ((congrArg (fun z => aI z (y677 : Int32).toNatClampNeg) (fm_A g722 rpt (by decide) rfl)).trans ((congrArg (fun z => aI z (y677 : Int32).toNatClampNeg) (fm_A g711 rpt (by decide) rfl)).trans m681))
                have m729 : aI (f720 pS) = aI (f62 pS) := ((congrArg aI (fm_A g722 rS (by decide) rfl)).trans ((congrArg aI (fm_A g711 rS (by decide) rfl)).trans ((congrArg aI (fm_A g645 rS (by decide) rfl)).trans ((congrArg aI (fm_A g637 rS (by decide) rfl)).trans rfl))))
                have hF := FM.tr hF g722 rfl
                have z730 := rj_call z717 h723
                refine lv_aload_n hx hb dX5_readClause_294 rfl (lv_at hl 3 rfl) ?_
                refine lv_sipush (v := 259) hx hb dX5_readClause_295 (by decide) ?_
                refine lv_iconst (v := 0) hx hb dX5_readClause_298 (by decide) ?_
                have hW0 := hW.2.2.2
                refine t_callV (As := [.int 259, .int 0]) (rest := []) E hW (c_X5_write l G cI cJ cZ cD cR cT kp L f720 hW.2.2.2 _ h0 259 0 rh0 (by decide) (z730).1) rh0 (by decide) rfl wk_X5_write tw_969 rfl ⟨Nat.le_of_ble_eq_true rfl, Nat.le_of_ble_eq_true rfl⟩ ⟨rfl, rfl⟩ hl.1 rfl (Nat.le_of_ble_eq_true rfl) dX5_readClause_299 ⟨Nat.le_of_ble_eq_true rfl, Nat.le_of_ble_eq_true rfl⟩ (fun v731 f732 H locs q733 hW => ?_)
                obtain ⟨rfl, g734, h735⟩ := q733
                have m736 : oR (f732 h0) 5 = a44 := ((fm_R g734 rh0 rfl).trans ((fm_R g722 rh0 rfl).trans ((fm_R g711 rh0 rfl).trans ((fm_R g645 rh0 rfl).trans ((fm_R g637 rh0 rfl).trans ((fm_R g65 rh0 rfl).trans ((fm_R g50 rh0 rfl).trans m45)))))))
                have m737 : aI (f732 pt) (pa : Int32).toNatClampNeg = py := ((congrArg (fun z => aI z (pa : Int32).toNatClampNeg) (fm_A g734 rpt (by decide) rfl)).trans ((congrArg (fun z => aI z (pa : Int32).toNatClampNeg) (fm_A g722 rpt (by decide) rfl)).trans m714))
                have m738 : aI (f732 a27) (y1 : Int32).toNatClampNeg = py := ((congrArg (fun z => aI z (y1 : Int32).toNatClampNeg) (fm_A g734 r29 (by decide) rfl)).trans ((congrArg (fun z => aI z (y1 : Int32).toNatClampNeg) (fm_A g722 r29 (by decide) rfl)).trans m715))
                have m739 : aI (f732 a44) (y1 : Int32).toNatClampNeg = 0 := ((congrArg (fun z => aI z (y1 : Int32).toNatClampNeg) (fm_A g734 r46 (by decide) rfl)).trans ((congrArg (fun z => aI z (y1 : Int32).toNatClampNeg) (fm_A g722 r46 (by decide) rfl)).trans m716))
                have hF := FM.tr hF g734 rfl
                have z741 := rj_call z730 h735
                refine lv_aload_n hx hb dX5_readClause_302 rfl (lv_at hl 3 rfl) ?_
                refine fg_RX5_28 E hW rh0 dX5_readClause_303 (fun a742 m743 r744 => ?_)
                obtain rfl : pE = a742 := (((fm_R g734 rh0 rfl).trans ((fm_R g722 rh0 rfl).trans ((fm_R g711 rh0 rfl).trans m648)))).symm.trans m743
                refine lv_iload_n hx hb dX5_readClause_306 rfl (lv_at hl 2 rfl) ?_
                refine lv_aload_n hx hb dX5_readClause_307 rfl (lv_at hl 3 rfl) ?_
                refine fg_RX5_57 E hW rh0 dX5_readClause_308 (fun y745 m746 b747 => ?_)
                have hW0 := hW.2.2.2
                refine gs_407 E hW rE ⟨by omega, by omega⟩ dX5_readClause_311 (fun f748 H locs e749 n750 g751 hW => ?_)
                have m752 : oR (f748 h0) 6 = pS := ((fm_R g751 rh0 rfl).trans ((fm_R g734 rh0 rfl).trans ((fm_R g722 rh0 rfl).trans ((fm_R g711 rh0 rfl).trans ((fm_R g645 rh0 rfl).trans ((fm_R g637 rh0 rfl).trans ((fm_R g65 rh0 rfl).trans m57)))))))
                have m753 : aI (f748 a36) (y1 : Int32).toNatClampNeg = 0 := ((congrArg (fun z => aI z (y1 : Int32).toNatClampNeg) (fm_A g751 r38 (by decide) rfl)).trans ((congrArg (fun z => aI z (y1 : Int32).toNatClampNeg) (fm_A g734 r38 (by decide) rfl)).trans m725))
                have m754 : aI (f748 pS) (y1 : Int32).toNatClampNeg = y59 := ((congrArg (fun z => aI z (y1 : Int32).toNatClampNeg) (fm_A g751 rS (by decide) rfl)).trans ((congrArg (fun z => aI z (y1 : Int32).toNatClampNeg) (fm_A g734 rS (by decide) rfl)).trans m726))
                have m755 : aI (f748 pt) (y677 : Int32).toNatClampNeg = y680 := ((congrArg (fun z => aI z (y677 : Int32).toNatClampNeg) (fm_A g751 rpt (by decide) rfl)).trans ((congrArg (fun z => aI z (y677 : Int32).toNatClampNeg) (fm_A g734 rpt (by decide) rfl)).trans m727))
                have z756 : rdJ f0 f748 h0 := rj_fm hW0 z741 g751 rh0 rfl rfl rfl rfl rfl
                have hF := FM.tr hF g751 rfl
                have z757 : aI (f748 pE) = upd (aI (f0 pE)) (y1 : Int32).toNatClampNeg y745 := by rw [e749, ((congrArg aI (fm_A g734 rE (by decide) rfl)).trans ((congrArg aI (fm_A g722 rE (by decide) rfl)).trans m718))]
                exact e_V E hW rfl ⟨rfl, hF, z756, (rc_end (c := y1) (w := y59) (w2 := y745) hRC (by rw [m752, mS, ((congrArg aI (fm_A g751 rS (by decide) rfl)).trans ((congrArg aI (fm_A g734 rS (by decide) rfl)).trans m729))]; exact z68) (by rw [((fm_R g751 rh0 rfl).trans m743), mE]; exact z757) m18 (by omega) (by omega) ((fm_I g751 rh0 rfl).trans m746) z756.2 (by rw [((fm_I g751 rh0 rfl).trans ((fm_I g734 rh0 rfl).trans ((fm_I g722 rh0 rfl).trans m712)))]; omega))⟩ dX5_readClause_312
      · refine lv_aload_n hx hb dX5_readClause_132 rfl (lv_at hl 3 rfl) ?_
        refine lv_dup hx hb dX5_readClause_133 rfl ?_
        refine fg_RX5_60 E hW rh0 dX5_readClause_134 (fun y758 m759 b760 => ?_)
        obtain rfl : pa = y758 := (((fm_I g65 rh0 rfl).trans ((fm_I g50 rh0 rfl).trans ((fm_I g42 rh0 rfl).trans ((fm_I g33 rh0 rfl).trans ((fm_I g25 rh0 rfl).trans m12)))))).symm.trans m759
        refine lv_iconst (v := 1) hx hb dX5_readClause_137 (by decide) ?_
        refine q_iadd (Y := 1) hx hb dX5_readClause_138 rfl rfl (by omega) (fun x761 h762 => ?_)
        have lt763 : pa.toInt < (oI (f62 h0) 11).toInt := ri_lt z67.1 m759 ((fm_R g65 rh0 rfl).trans ((fm_R g50 rh0 rfl).trans ((fm_R g42 rh0 rfl).trans ((fm_R g33 rh0 rfl).trans ((fm_R g25 rh0 rfl).trans m9))))) ((congrArg (fun z => aI z (pa : Int32).toNatClampNeg) (fm_A g65 rpt (by decide) rfl)).trans m51) (by omega)
        have le764 := tok_le hW rh0
        have hvtlt763 : x761.toInt ≤ (oI (f62 h0) 11).toInt := by omega
        have hW0 := hW.2.2.2
        refine fp_RX5_60 E hW rh0 (by omega) dX5_readClause_139 (fun f765 H locs e766 n767 g768 hW => ?_)
        have m769 : aI (f765 pt) (pa : Int32).toNatClampNeg = py := ((congrArg (fun z => aI z (pa : Int32).toNatClampNeg) (fm_A g768 rpt (by decide) rfl)).trans ((congrArg (fun z => aI z (pa : Int32).toNatClampNeg) (fm_A g65 rpt (by decide) rfl)).trans m51))
        have m770 : aI (f765 a27) (y1 : Int32).toNatClampNeg = py := ((congrArg (fun z => aI z (y1 : Int32).toNatClampNeg) (fm_A g768 r29 (by decide) rfl)).trans ((congrArg (fun z => aI z (y1 : Int32).toNatClampNeg) (fm_A g65 r29 (by decide) rfl)).trans m52))
        have m771 : aI (f765 a44) (y1 : Int32).toNatClampNeg = 0 := ((congrArg (fun z => aI z (y1 : Int32).toNatClampNeg) (fm_A g768 r46 (by decide) rfl)).trans ((congrArg (fun z => aI z (y1 : Int32).toNatClampNeg) (fm_A g65 r46 (by decide) rfl)).trans (show aI (f47 a44) (y1 : Int32).toNatClampNeg = 0 from by rw [e48]; exact up_s)))
        have z772 : rdJ f0 f765 h0 := (rj_at hW0 z67 g768 rh0 e766 hvtlt763)
        have hF := FM.tr hF g768 rfl
        refine lv_aload_n hx hb dX5_readClause_142 rfl (lv_at hl 3 rfl) ?_
        refine fg_RX5_19 E hW rh0 dX5_readClause_143 (fun a773 m774 r775 => ?_)
        obtain rfl : a36 = a773 := (((fm_R g768 rh0 rfl).trans ((fm_R g65 rh0 rfl).trans ((fm_R g50 rh0 rfl).trans ((fm_R g42 rh0 rfl).trans m37))))).symm.trans m774
        refine lv_iload_n hx hb dX5_readClause_146 rfl (lv_at hl 2 rfl) ?_
        refine lv_aload_n hx hb dX5_readClause_147 rfl (lv_at hl 3 rfl) ?_
        refine lv_iconst (v := 0) hx hb dX5_readClause_148 (by decide) ?_
        refine lv_iconst (v := 3) hx hb dX5_readClause_149 (by decide) ?_
        have hW0 := hW.2.2.2
        refine t_callV (As := [.int 0, .int 3]) (rest := [.int y1, .ref a36]) E hW (c_X5_readNumber_c l G cI cJ cZ cD cR cT kp L f765 hW.2.2.2 _ h0 0 3 rh0 (by decide) (by decide) (z772).1) rh0 (by decide) rfl wk_X5_readNumber tw_945 rfl ⟨Nat.le_of_ble_eq_true rfl, Nat.le_of_ble_eq_true rfl⟩ ⟨rfl, rfl⟩ hl.1 rfl (Nat.le_of_ble_eq_true rfl) dX5_readClause_150 ⟨Nat.le_of_ble_eq_true rfl, Nat.le_of_ble_eq_true rfl⟩ (fun v776 f777 H locs q778 hW => ?_)
        obtain ⟨⟨x781, rfl, p782⟩, g779, h780⟩ := q778
        have p782 : x781.toInt = 0 ∨ (0 ≤ x781.toInt ∧ x781.toInt ≤ 3) := p782
        have m783 : oR (f777 h0) 12 = pt := ((fm_R g779 rh0 rfl).trans ((fm_R g768 rh0 rfl).trans ((fm_R g65 rh0 rfl).trans ((fm_R g50 rh0 rfl).trans ((fm_R g42 rh0 rfl).trans ((fm_R g33 rh0 rfl).trans ((fm_R g25 rh0 rfl).trans m9)))))))
        have m784 : oR (f777 h0) 7 = pE := ((fm_R g779 rh0 rfl).trans ((fm_R g768 rh0 rfl).trans ((fm_R g65 rh0 rfl).trans ((fm_R g50 rh0 rfl).trans ((fm_R g42 rh0 rfl).trans ((fm_R g33 rh0 rfl).trans ((fm_R g25 rh0 rfl).trans mE)))))))
        have m785 : aI (f777 a36) (y1 : Int32).toNatClampNeg = 0 := ((congrArg (fun z => aI z (y1 : Int32).toNatClampNeg) (fm_A g779 r38 (by decide) rfl)).trans ((congrArg (fun z => aI z (y1 : Int32).toNatClampNeg) (fm_A g768 r38 (by decide) rfl)).trans m66))
        have m786 : aI (f777 pS) (y1 : Int32).toNatClampNeg = y59 := ((congrArg (fun z => aI z (y1 : Int32).toNatClampNeg) (fm_A g779 rS (by decide) rfl)).trans ((congrArg (fun z => aI z (y1 : Int32).toNatClampNeg) (fm_A g768 rS (by decide) rfl)).trans (show aI (f62 pS) (y1 : Int32).toNatClampNeg = y59 from by rw [e63]; exact up_s)))
        have hF := FM.tr hF g779 rfl
        have z788 := rj_call z772 h780
        have hW0 := hW.2.2.2
        refine gs_404 E hW r38 ⟨by omega, by omega⟩ (by omega) dX5_readClause_153 (fun f789 H locs e790 n791 g792 hW => ?_)
        have m793 : oI (f789 h0) 1 = x20 := ((fm_I g792 rh0 rfl).trans ((fm_I g779 rh0 rfl).trans ((fm_I g768 rh0 rfl).trans ((fm_I g65 rh0 rfl).trans ((fm_I g50 rh0 rfl).trans ((fm_I g42 rh0 rfl).trans ((fm_I g33 rh0 rfl).trans e23)))))))
        have m794 : oR (f789 h0) 3 = a27 := ((fm_R g792 rh0 rfl).trans ((fm_R g779 rh0 rfl).trans ((fm_R g768 rh0 rfl).trans ((fm_R g65 rh0 rfl).trans ((fm_R g50 rh0 rfl).trans ((fm_R g42 rh0 rfl).trans ((fm_R g33 rh0 rfl).trans m28)))))))
        have m795 : aI (f789 pt) (pa : Int32).toNatClampNeg = py := ((congrArg (fun z => aI z (pa : Int32).toNatClampNeg) (fm_A g792 rpt (by decide) rfl)).trans ((congrArg (fun z => aI z (pa : Int32).toNatClampNeg) (fm_A g779 rpt (by decide) rfl)).trans m769))
        have m796 : aI (f789 a27) (y1 : Int32).toNatClampNeg = py := ((congrArg (fun z => aI z (y1 : Int32).toNatClampNeg) (fm_A g792 r29 (by decide) rfl)).trans ((congrArg (fun z => aI z (y1 : Int32).toNatClampNeg) (fm_A g779 r29 (by decide) rfl)).trans m770))
        have m797 : aI (f789 a44) (y1 : Int32).toNatClampNeg = 0 := ((congrArg (fun z => aI z (y1 : Int32).toNatClampNeg) (fm_A g792 r46 (by decide) rfl)).trans ((congrArg (fun z => aI z (y1 : Int32).toNatClampNeg) (fm_A g779 r46 (by decide) rfl)).trans m771))
        have z798 : rdJ f0 f789 h0 := rj_fm hW0 z788 g792 rh0 rfl rfl rfl rfl rfl
        have m799 : aI (f789 pE) = aI (f0 pE) := ((congrArg aI (fm_A g792 rE (by decide) rfl)).trans ((congrArg aI (fm_A g779 rE (by decide) rfl)).trans ((congrArg aI (fm_A g768 rE (by decide) rfl)).trans ((congrArg aI (fm_A g65 rE (by decide) rfl)).trans m55))))
        have hF := FM.tr hF g792 rfl
        refine lv_aload_n hx hb dX5_readClause_154 rfl (lv_at hl 3 rfl) ?_
        refine fg_RX5_22 E hW rh0 dX5_readClause_155 (fun a800 m801 r802 => ?_)
        obtain rfl : a44 = a800 := (((fm_R g792 rh0 rfl).trans ((fm_R g779 rh0 rfl).trans ((fm_R g768 rh0 rfl).trans ((fm_R g65 rh0 rfl).trans ((fm_R g50 rh0 rfl).trans m45)))))).symm.trans m801
        refine lv_iload_n hx hb dX5_readClause_158 rfl (lv_at hl 2 rfl) ?_
        refine lv_aload_n hx hb dX5_readClause_159 rfl (lv_at hl 3 rfl) ?_
        refine lv_iconst (v := 1) hx hb dX5_readClause_160 (by decide) ?_
        refine lv_bipush (v := 52) hx hb dX5_readClause_161 (by decide) ?_
        have hW0 := hW.2.2.2
        refine t_callV (As := [.int 1, .int 52]) (rest := [.int y1, .ref a44]) E hW (c_X5_readNumber_c l G cI cJ cZ cD cR cT kp L f789 hW.2.2.2 _ h0 1 52 rh0 (by decide) (by decide) (z798).1) rh0 (by decide) rfl wk_X5_readNumber tw_945 rfl ⟨Nat.le_of_ble_eq_true rfl, Nat.le_of_ble_eq_true rfl⟩ ⟨rfl, rfl⟩ hl.1 rfl (Nat.le_of_ble_eq_true rfl) dX5_readClause_163 ⟨Nat.le_of_ble_eq_true rfl, Nat.le_of_ble_eq_true rfl⟩ (fun v803 f804 H locs q805 hW => ?_)
        obtain ⟨⟨x808, rfl, p809⟩, g806, h807⟩ := q805
        have p809 : x808.toInt = 0 ∨ (1 ≤ x808.toInt ∧ x808.toInt ≤ 52) := p809
        have m810 : aI (f804 pS) (y1 : Int32).toNatClampNeg = y59 := ((congrArg (fun z => aI z (y1 : Int32).toNatClampNeg) (fm_A g806 rS (by decide) rfl)).trans ((congrArg (fun z => aI z (y1 : Int32).toNatClampNeg) (fm_A g792 rS (by decide) rfl)).trans m786))
        have m812 : aI (f804 pS) = aI (f62 pS) := ((congrArg aI (fm_A g806 rS (by decide) rfl)).trans ((congrArg aI (fm_A g792 rS (by decide) rfl)).trans ((congrArg aI (fm_A g779 rS (by decide) rfl)).trans ((congrArg aI (fm_A g768 rS (by decide) rfl)).trans rfl))))
        have hF := FM.tr hF g806 rfl
        have z813 := rj_call z798 h807
        have hW0 := hW.2.2.2
        refine gs_405 E hW r46 ⟨by omega, by omega⟩ dX5_readClause_166 (fun f814 H locs e815 n816 g817 hW => ?_)
        have m818 : aI (f814 pt) (pa : Int32).toNatClampNeg = py := ((congrArg (fun z => aI z (pa : Int32).toNatClampNeg) (fm_A g817 rpt (by decide) rfl)).trans ((congrArg (fun z => aI z (pa : Int32).toNatClampNeg) (fm_A g806 rpt (by decide) rfl)).trans m795))
        have m819 : aI (f814 a27) (y1 : Int32).toNatClampNeg = py := ((congrArg (fun z => aI z (y1 : Int32).toNatClampNeg) (fm_A g817 r29 (by decide) rfl)).trans ((congrArg (fun z => aI z (y1 : Int32).toNatClampNeg) (fm_A g806 r29 (by decide) rfl)).trans m796))
        have m820 : aI (f814 a36) (y1 : Int32).toNatClampNeg = x781 := ((congrArg (fun z => aI z (y1 : Int32).toNatClampNeg) (fm_A g817 r38 (by decide) rfl)).trans ((congrArg (fun z => aI z (y1 : Int32).toNatClampNeg) (fm_A g806 r38 (by decide) rfl)).trans (show aI (f789 a36) (y1 : Int32).toNatClampNeg = x781 from by rw [e790]; exact up_s)))
        have z821 : rdJ f0 f814 h0 := rj_fm hW0 z813 g817 rh0 rfl rfl rfl rfl rfl
        have hF := FM.tr hF g817 rfl
        refine lv_goto (tgt := 252) hx hb dX5_readClause_167 (by decide) ?_
        refine lv_iload_n hx hb dX5_readClause_252 rfl (lv_at hl 0 rfl) ?_
        refine q_if_eq (X := 0) (tgt := 302) hx hb dX5_readClause_253 (by decide) rfl (fun _ => ?_) (fun c => absurd c (by decide))
        refine lv_aload_n hx hb dX5_readClause_302 rfl (lv_at hl 3 rfl) ?_
        refine fg_RX5_28 E hW rh0 dX5_readClause_303 (fun a822 m823 r824 => ?_)
        obtain rfl : pE = a822 := (((fm_R g817 rh0 rfl).trans ((fm_R g806 rh0 rfl).trans ((fm_R g792 rh0 rfl).trans m784)))).symm.trans m823
        refine lv_iload_n hx hb dX5_readClause_306 rfl (lv_at hl 2 rfl) ?_
        refine lv_aload_n hx hb dX5_readClause_307 rfl (lv_at hl 3 rfl) ?_
        refine fg_RX5_57 E hW rh0 dX5_readClause_308 (fun y825 m826 b827 => ?_)
        obtain rfl : y59 = y825 := (((fm_I g817 rh0 rfl).trans ((fm_I g806 rh0 rfl).trans ((fm_I g792 rh0 rfl).trans ((fm_I g779 rh0 rfl).trans ((fm_I g768 rh0 rfl).trans ((fm_I g65 rh0 rfl).trans m60))))))).symm.trans m826
        have hW0 := hW.2.2.2
        refine gs_407 E hW rE ⟨by omega, by omega⟩ dX5_readClause_311 (fun f828 H locs e829 n830 g831 hW => ?_)
        have m832 : oR (f828 h0) 6 = pS := ((fm_R g831 rh0 rfl).trans ((fm_R g817 rh0 rfl).trans ((fm_R g806 rh0 rfl).trans ((fm_R g792 rh0 rfl).trans ((fm_R g779 rh0 rfl).trans ((fm_R g768 rh0 rfl).trans ((fm_R g65 rh0 rfl).trans m57)))))))
        have m833 : aI (f828 pS) (y1 : Int32).toNatClampNeg = y59 := ((congrArg (fun z => aI z (y1 : Int32).toNatClampNeg) (fm_A g831 rS (by decide) rfl)).trans ((congrArg (fun z => aI z (y1 : Int32).toNatClampNeg) (fm_A g817 rS (by decide) rfl)).trans m810))
        have z834 : rdJ f0 f828 h0 := rj_fm hW0 z821 g831 rh0 rfl rfl rfl rfl rfl
        have hF := FM.tr hF g831 rfl
        have z835 : aI (f828 pE) = upd (aI (f0 pE)) (y1 : Int32).toNatClampNeg y59 := by rw [e829, ((congrArg aI (fm_A g817 rE (by decide) rfl)).trans ((congrArg aI (fm_A g806 rE (by decide) rfl)).trans m799))]
        exact e_V E hW rfl ⟨rfl, hF, z834, (rc_end (c := y1) (w := y59) (w2 := y59) hRC (by rw [m832, mS, ((congrArg aI (fm_A g831 rS (by decide) rfl)).trans ((congrArg aI (fm_A g817 rS (by decide) rfl)).trans m812))]; exact z68) (by rw [((fm_R g831 rh0 rfl).trans m823), mE]; exact z835) m18 (by omega) (by omega) ((fm_I g831 rh0 rfl).trans m826) z834.2 (by rw [((fm_I g831 rh0 rfl).trans ((fm_I g817 rh0 rfl).trans ((fm_I g806 rh0 rfl).trans m793)))]; omega))⟩ dX5_readClause_312
    · refine lv_aload_n hx hb dX5_readClause_79 rfl (lv_at hl 3 rfl) ?_
      refine lv_dup hx hb dX5_readClause_80 rfl ?_
      refine fg_RX5_60 E hW rh0 dX5_readClause_81 (fun y836 m837 b838 => ?_)
      obtain rfl : pa = y836 := (((fm_I g65 rh0 rfl).trans ((fm_I g50 rh0 rfl).trans ((fm_I g42 rh0 rfl).trans ((fm_I g33 rh0 rfl).trans ((fm_I g25 rh0 rfl).trans m12)))))).symm.trans m837
      refine lv_iconst (v := 1) hx hb dX5_readClause_84 (by decide) ?_
      refine q_iadd (Y := 1) hx hb dX5_readClause_85 rfl rfl (by omega) (fun x839 h840 => ?_)
      have lt841 : pa.toInt < (oI (f62 h0) 11).toInt := ri_lt z67.1 m837 ((fm_R g65 rh0 rfl).trans ((fm_R g50 rh0 rfl).trans ((fm_R g42 rh0 rfl).trans ((fm_R g33 rh0 rfl).trans ((fm_R g25 rh0 rfl).trans m9))))) ((congrArg (fun z => aI z (pa : Int32).toNatClampNeg) (fm_A g65 rpt (by decide) rfl)).trans m51) (by omega)
      have le842 := tok_le hW rh0
      have hvtlt841 : x839.toInt ≤ (oI (f62 h0) 11).toInt := by omega
      have hW0 := hW.2.2.2
      refine fp_RX5_60 E hW rh0 (by omega) dX5_readClause_86 (fun f843 H locs e844 n845 g846 hW => ?_)
      have m847 : aI (f843 pt) (pa : Int32).toNatClampNeg = py := ((congrArg (fun z => aI z (pa : Int32).toNatClampNeg) (fm_A g846 rpt (by decide) rfl)).trans ((congrArg (fun z => aI z (pa : Int32).toNatClampNeg) (fm_A g65 rpt (by decide) rfl)).trans m51))
      have m848 : aI (f843 a27) (y1 : Int32).toNatClampNeg = py := ((congrArg (fun z => aI z (y1 : Int32).toNatClampNeg) (fm_A g846 r29 (by decide) rfl)).trans ((congrArg (fun z => aI z (y1 : Int32).toNatClampNeg) (fm_A g65 r29 (by decide) rfl)).trans m52))
      have m849 : aI (f843 a44) (y1 : Int32).toNatClampNeg = 0 := ((congrArg (fun z => aI z (y1 : Int32).toNatClampNeg) (fm_A g846 r46 (by decide) rfl)).trans ((congrArg (fun z => aI z (y1 : Int32).toNatClampNeg) (fm_A g65 r46 (by decide) rfl)).trans (show aI (f47 a44) (y1 : Int32).toNatClampNeg = 0 from by rw [e48]; exact up_s)))
      have z850 : rdJ f0 f843 h0 := (rj_at hW0 z67 g846 rh0 e844 hvtlt841)
      have hF := FM.tr hF g846 rfl
      refine lv_aload_n hx hb dX5_readClause_89 rfl (lv_at hl 3 rfl) ?_
      refine fg_RX5_19 E hW rh0 dX5_readClause_90 (fun a851 m852 r853 => ?_)
      obtain rfl : a36 = a851 := (((fm_R g846 rh0 rfl).trans ((fm_R g65 rh0 rfl).trans ((fm_R g50 rh0 rfl).trans ((fm_R g42 rh0 rfl).trans m37))))).symm.trans m852
      refine lv_iload_n hx hb dX5_readClause_93 rfl (lv_at hl 2 rfl) ?_
      refine lv_aload_n hx hb dX5_readClause_94 rfl (lv_at hl 3 rfl) ?_
      refine lv_iconst (v := 0) hx hb dX5_readClause_95 (by decide) ?_
      refine lv_bipush (v := 19) hx hb dX5_readClause_96 (by decide) ?_
      have hW0 := hW.2.2.2
      refine t_callV (As := [.int 0, .int 19]) (rest := [.int y1, .ref a36]) E hW (c_X5_readNumber_c l G cI cJ cZ cD cR cT kp L f843 hW.2.2.2 _ h0 0 19 rh0 (by decide) (by decide) (z850).1) rh0 (by decide) rfl wk_X5_readNumber tw_945 rfl ⟨Nat.le_of_ble_eq_true rfl, Nat.le_of_ble_eq_true rfl⟩ ⟨rfl, rfl⟩ hl.1 rfl (Nat.le_of_ble_eq_true rfl) dX5_readClause_98 ⟨Nat.le_of_ble_eq_true rfl, Nat.le_of_ble_eq_true rfl⟩ (fun v854 f855 H locs q856 hW => ?_)
      obtain ⟨⟨x859, rfl, p860⟩, g857, h858⟩ := q856
      have p860 : x859.toInt = 0 ∨ (0 ≤ x859.toInt ∧ x859.toInt ≤ 19) := p860
      have m861 : oR (f855 h0) 12 = pt := ((fm_R g857 rh0 rfl).trans ((fm_R g846 rh0 rfl).trans ((fm_R g65 rh0 rfl).trans ((fm_R g50 rh0 rfl).trans ((fm_R g42 rh0 rfl).trans ((fm_R g33 rh0 rfl).trans ((fm_R g25 rh0 rfl).trans m9)))))))
      have m862 : oR (f855 h0) 7 = pE := ((fm_R g857 rh0 rfl).trans ((fm_R g846 rh0 rfl).trans ((fm_R g65 rh0 rfl).trans ((fm_R g50 rh0 rfl).trans ((fm_R g42 rh0 rfl).trans ((fm_R g33 rh0 rfl).trans ((fm_R g25 rh0 rfl).trans mE)))))))
      have m863 : aI (f855 a36) (y1 : Int32).toNatClampNeg = 0 := ((congrArg (fun z => aI z (y1 : Int32).toNatClampNeg) (fm_A g857 r38 (by decide) rfl)).trans ((congrArg (fun z => aI z (y1 : Int32).toNatClampNeg) (fm_A g846 r38 (by decide) rfl)).trans m66))
      have m864 : aI (f855 pS) (y1 : Int32).toNatClampNeg = y59 := ((congrArg (fun z => aI z (y1 : Int32).toNatClampNeg) (fm_A g857 rS (by decide) rfl)).trans ((congrArg (fun z => aI z (y1 : Int32).toNatClampNeg) (fm_A g846 rS (by decide) rfl)).trans (show aI (f62 pS) (y1 : Int32).toNatClampNeg = y59 from by rw [e63]; exact up_s)))
      have hF := FM.tr hF g857 rfl
      have z866 := rj_call z850 h858
      have hW0 := hW.2.2.2
      refine gs_404 E hW r38 ⟨by omega, by omega⟩ (by omega) dX5_readClause_101 (fun f867 H locs e868 n869 g870 hW => ?_)
      have m871 : oI (f867 h0) 1 = x20 := ((fm_I g870 rh0 rfl).trans ((fm_I g857 rh0 rfl).trans ((fm_I g846 rh0 rfl).trans ((fm_I g65 rh0 rfl).trans ((fm_I g50 rh0 rfl).trans ((fm_I g42 rh0 rfl).trans ((fm_I g33 rh0 rfl).trans e23)))))))
      have m872 : oR (f867 h0) 3 = a27 := ((fm_R g870 rh0 rfl).trans ((fm_R g857 rh0 rfl).trans ((fm_R g846 rh0 rfl).trans ((fm_R g65 rh0 rfl).trans ((fm_R g50 rh0 rfl).trans ((fm_R g42 rh0 rfl).trans ((fm_R g33 rh0 rfl).trans m28)))))))
      have m873 : aI (f867 pt) (pa : Int32).toNatClampNeg = py := ((congrArg (fun z => aI z (pa : Int32).toNatClampNeg) (fm_A g870 rpt (by decide) rfl)).trans ((congrArg (fun z => aI z (pa : Int32).toNatClampNeg) (fm_A g857 rpt (by decide) rfl)).trans m847))
      have m874 : aI (f867 a27) (y1 : Int32).toNatClampNeg = py := ((congrArg (fun z => aI z (y1 : Int32).toNatClampNeg) (fm_A g870 r29 (by decide) rfl)).trans ((congrArg (fun z => aI z (y1 : Int32).toNatClampNeg) (fm_A g857 r29 (by decide) rfl)).trans m848))
      have m875 : aI (f867 a44) (y1 : Int32).toNatClampNeg = 0 := ((congrArg (fun z => aI z (y1 : Int32).toNatClampNeg) (fm_A g870 r46 (by decide) rfl)).trans ((congrArg (fun z => aI z (y1 : Int32).toNatClampNeg) (fm_A g857 r46 (by decide) rfl)).trans m849))
      have z876 : rdJ f0 f867 h0 := rj_fm hW0 z866 g870 rh0 rfl rfl rfl rfl rfl
      have m877 : aI (f867 pE) = aI (f0 pE) := ((congrArg aI (fm_A g870 rE (by decide) rfl)).trans ((congrArg aI (fm_A g857 rE (by decide) rfl)).trans ((congrArg aI (fm_A g846 rE (by decide) rfl)).trans ((congrArg aI (fm_A g65 rE (by decide) rfl)).trans m55))))
      have hF := FM.tr hF g870 rfl
      refine lv_aload_n hx hb dX5_readClause_102 rfl (lv_at hl 3 rfl) ?_
      refine lv_sipush (v := 257) hx hb dX5_readClause_103 (by decide) ?_
      have hW0 := hW.2.2.2
      refine t_callV (As := [.int 257]) (rest := []) E hW (c_X5_expect l G cI cJ cZ cD cR cT kp L f867 hW.2.2.2 _ h0 257 rh0 (by decide) (z876).1) rh0 (by decide) rfl wk_X5_expect tw_949 rfl ⟨Nat.le_of_ble_eq_true rfl, Nat.le_of_ble_eq_true rfl⟩ ⟨rfl, rfl⟩ hl.1 rfl (Nat.le_of_ble_eq_true rfl) dX5_readClause_106 ⟨Nat.le_of_ble_eq_true rfl, Nat.le_of_ble_eq_true rfl⟩ (fun v878 f879 H locs q880 hW => ?_)
      obtain ⟨rfl, g881, h882⟩ := q880
      have m883 : aI (f879 pS) (y1 : Int32).toNatClampNeg = y59 := ((congrArg (fun z => aI z (y1 : Int32).toNatClampNeg) (fm_A g881 rS (by decide) rfl)).trans ((congrArg (fun z => aI z (y1 : Int32).toNatClampNeg) (fm_A g870 rS (by decide) rfl)).trans m864))
      have m885 : aI (f879 pS) = aI (f62 pS) := ((congrArg aI (fm_A g881 rS (by decide) rfl)).trans ((congrArg aI (fm_A g870 rS (by decide) rfl)).trans ((congrArg aI (fm_A g857 rS (by decide) rfl)).trans ((congrArg aI (fm_A g846 rS (by decide) rfl)).trans rfl))))
      have hF := FM.tr hF g881 rfl
      have z886 := rj_call z876 h882
      refine lv_aload_n hx hb dX5_readClause_109 rfl (lv_at hl 3 rfl) ?_
      refine fg_RX5_22 E hW rh0 dX5_readClause_110 (fun a887 m888 r889 => ?_)
      obtain rfl : a44 = a887 := (((fm_R g881 rh0 rfl).trans ((fm_R g870 rh0 rfl).trans ((fm_R g857 rh0 rfl).trans ((fm_R g846 rh0 rfl).trans ((fm_R g65 rh0 rfl).trans ((fm_R g50 rh0 rfl).trans m45))))))).symm.trans m888
      refine lv_iload_n hx hb dX5_readClause_113 rfl (lv_at hl 2 rfl) ?_
      refine lv_aload_n hx hb dX5_readClause_114 rfl (lv_at hl 3 rfl) ?_
      refine lv_iconst (v := 0) hx hb dX5_readClause_115 (by decide) ?_
      refine lv_bipush (v := 11) hx hb dX5_readClause_116 (by decide) ?_
      have hW0 := hW.2.2.2
      refine t_callV (As := [.int 0, .int 11]) (rest := [.int y1, .ref a44]) E hW (c_X5_readNumber_c l G cI cJ cZ cD cR cT kp L f879 hW.2.2.2 _ h0 0 11 rh0 (by decide) (by decide) (z886).1) rh0 (by decide) rfl wk_X5_readNumber tw_945 rfl ⟨Nat.le_of_ble_eq_true rfl, Nat.le_of_ble_eq_true rfl⟩ ⟨rfl, rfl⟩ hl.1 rfl (Nat.le_of_ble_eq_true rfl) dX5_readClause_118 ⟨Nat.le_of_ble_eq_true rfl, Nat.le_of_ble_eq_true rfl⟩ (fun v890 f891 H locs q892 hW => ?_)
      obtain ⟨⟨x895, rfl, p896⟩, g893, h894⟩ := q892
      have p896 : x895.toInt = 0 ∨ (0 ≤ x895.toInt ∧ x895.toInt ≤ 11) := p896
      have m897 : aI (f891 pt) (pa : Int32).toNatClampNeg = py := ((congrArg (fun z => aI z (pa : Int32).toNatClampNeg) (fm_A g893 rpt (by decide) rfl)).trans ((congrArg (fun z => aI z (pa : Int32).toNatClampNeg) (fm_A g881 rpt (by decide) rfl)).trans m873))
      have m898 : aI (f891 a27) (y1 : Int32).toNatClampNeg = py := ((congrArg (fun z => aI z (y1 : Int32).toNatClampNeg) (fm_A g893 r29 (by decide) rfl)).trans ((congrArg (fun z => aI z (y1 : Int32).toNatClampNeg) (fm_A g881 r29 (by decide) rfl)).trans m874))
      have m899 : aI (f891 a44) (y1 : Int32).toNatClampNeg = 0 := ((congrArg (fun z => aI z (y1 : Int32).toNatClampNeg) (fm_A g893 r46 (by decide) rfl)).trans ((congrArg (fun z => aI z (y1 : Int32).toNatClampNeg) (fm_A g881 r46 (by decide) rfl)).trans m875))
      have m900 : aI (f891 a36) (y1 : Int32).toNatClampNeg = x859 := ((congrArg (fun z => aI z (y1 : Int32).toNatClampNeg) (fm_A g893 r38 (by decide) rfl)).trans ((congrArg (fun z => aI z (y1 : Int32).toNatClampNeg) (fm_A g881 r38 (by decide) rfl)).trans (show aI (f867 a36) (y1 : Int32).toNatClampNeg = x859 from by rw [e868]; exact up_s)))
      have hF := FM.tr hF g893 rfl
      have z902 := rj_call z886 h894
      have hW0 := hW.2.2.2
      refine gs_405 E hW r46 ⟨by omega, by omega⟩ dX5_readClause_121 (fun f903 H locs e904 n905 g906 hW => ?_)
      have m907 : oR (f903 h0) 6 = pS := ((fm_R g906 rh0 rfl).trans ((fm_R g893 rh0 rfl).trans ((fm_R g881 rh0 rfl).trans ((fm_R g870 rh0 rfl).trans ((fm_R g857 rh0 rfl).trans ((fm_R g846 rh0 rfl).trans ((fm_R g65 rh0 rfl).trans m57)))))))
      have m908 : oI (f903 h0) 8 = y59 := ((fm_I g906 rh0 rfl).trans ((fm_I g893 rh0 rfl).trans ((fm_I g881 rh0 rfl).trans ((fm_I g870 rh0 rfl).trans ((fm_I g857 rh0 rfl).trans ((fm_I g846 rh0 rfl).trans ((fm_I g65 rh0 rfl).trans m60)))))))
      have m909 : aI (f903 pS) (y1 : Int32).toNatClampNeg = y59 := ((congrArg (fun z => aI z (y1 : Int32).toNatClampNeg) (fm_A g906 rS (by decide) rfl)).trans ((congrArg (fun z => aI z (y1 : Int32).toNatClampNeg) (fm_A g893 rS (by decide) rfl)).trans m883))
      have z910 : rdJ f0 f903 h0 := rj_fm hW0 z902 g906 rh0 rfl rfl rfl rfl rfl
      have hF := FM.tr hF g906 rfl
      refine lv_goto (tgt := 252) hx hb dX5_readClause_122 (by decide) ?_
      refine lv_iload_n hx hb dX5_readClause_252 rfl (lv_at hl 0 rfl) ?_
      refine q_if_eq (X := 0) (tgt := 302) hx hb dX5_readClause_253 (by decide) rfl (fun _ => ?_) (fun c => absurd c (by decide))
      refine lv_aload_n hx hb dX5_readClause_302 rfl (lv_at hl 3 rfl) ?_
      refine fg_RX5_28 E hW rh0 dX5_readClause_303 (fun a911 m912 r913 => ?_)
      obtain rfl : pE = a911 := (((fm_R g906 rh0 rfl).trans ((fm_R g893 rh0 rfl).trans ((fm_R g881 rh0 rfl).trans ((fm_R g870 rh0 rfl).trans m862))))).symm.trans m912
      refine lv_iload_n hx hb dX5_readClause_306 rfl (lv_at hl 2 rfl) ?_
      refine lv_aload_n hx hb dX5_readClause_307 rfl (lv_at hl 3 rfl) ?_
      refine fg_RX5_57 E hW rh0 dX5_readClause_308 (fun y914 m915 b916 => ?_)
      obtain rfl : y59 = y914 := (m908).symm.trans m915
      have hW0 := hW.2.2.2
      refine gs_407 E hW rE ⟨by omega, by omega⟩ dX5_readClause_311 (fun f917 H locs e918 n919 g920 hW => ?_)
      have m921 : aI (f917 pt) (pa : Int32).toNatClampNeg = py := ((congrArg (fun z => aI z (pa : Int32).toNatClampNeg) (fm_A g920 rpt (by decide) rfl)).trans ((congrArg (fun z => aI z (pa : Int32).toNatClampNeg) (fm_A g906 rpt (by decide) rfl)).trans m897))
      have m922 : aI (f917 a27) (y1 : Int32).toNatClampNeg = py := ((congrArg (fun z => aI z (y1 : Int32).toNatClampNeg) (fm_A g920 r29 (by decide) rfl)).trans ((congrArg (fun z => aI z (y1 : Int32).toNatClampNeg) (fm_A g906 r29 (by decide) rfl)).trans m898))
      have m923 : aI (f917 a36) (y1 : Int32).toNatClampNeg = x859 := ((congrArg (fun z => aI z (y1 : Int32).toNatClampNeg) (fm_A g920 r38 (by decide) rfl)).trans ((congrArg (fun z => aI z (y1 : Int32).toNatClampNeg) (fm_A g906 r38 (by decide) rfl)).trans m900))
      have z924 : rdJ f0 f917 h0 := rj_fm hW0 z910 g920 rh0 rfl rfl rfl rfl rfl
      have hF := FM.tr hF g920 rfl
      have z925 : aI (f917 pE) = upd (aI (f0 pE)) (y1 : Int32).toNatClampNeg y59 := by rw [e918, ((congrArg aI (fm_A g906 rE (by decide) rfl)).trans ((congrArg aI (fm_A g893 rE (by decide) rfl)).trans ((congrArg aI (fm_A g881 rE (by decide) rfl)).trans m877)))]
      exact e_V E hW rfl ⟨rfl, hF, z924, (rc_end (c := y1) (w := y59) (w2 := y59) hRC (by rw [((fm_R g920 rh0 rfl).trans m907), mS, ((congrArg aI (fm_A g920 rS (by decide) rfl)).trans ((congrArg aI (fm_A g906 rS (by decide) rfl)).trans ((congrArg aI (fm_A g893 rS (by decide) rfl)).trans m885)))]; exact z68) (by rw [((fm_R g920 rh0 rfl).trans m912), mE]; exact z925) m18 (by omega) (by omega) ((fm_I g920 rh0 rfl).trans m915) z924.2 (by rw [((fm_I g920 rh0 rfl).trans ((fm_I g906 rh0 rfl).trans ((fm_I g893 rh0 rfl).trans ((fm_I g881 rh0 rfl).trans m871))))]; omega))⟩ dX5_readClause_312
  · refine lv_aload_n hx hb dX5_readClause_9 rfl (lv_at hl 0 rfl) ?_
    have hW0 := hW.2.2.2
    refine t_callV (As := []) (rest := []) E hW (c_X5_fail l G cI cJ cZ cD cR cT kp L f0 hW.2.2.2 _ h0 rh0 ((rj_0 hRI)).1) rh0 (by decide) rfl wk_X5_fail tw_941 rfl ⟨Nat.le_of_ble_eq_true rfl, Nat.le_of_ble_eq_true rfl⟩ ⟨rfl, rfl⟩ hl.1 rfl (Nat.le_of_ble_eq_true rfl) dX5_readClause_10 ⟨Nat.le_of_ble_eq_true rfl, Nat.le_of_ble_eq_true rfl⟩ (fun v926 f927 H locs q928 hW => ?_)
    obtain ⟨rfl, g929, h930, h931⟩ := q928
    have z932 : rdJ f0 f927 h0 := rj_fm hW0 (rj_0 hRI) g929 rh0 rfl rfl rfl rfl rfl
    have hF := FM.tr hF g929 rfl
    have z933 := rj_call (rj_0 hRI) h930
    exact e_V E hW rfl ⟨rfl, hF, z933, (rc_keep hRC hTH (show FM kp L ms_X5_fail f0 f927 from g929) rh0 rfl rfl rfl rfl rfl z933.2)⟩ dX5_readClause_13
def ms_J0_coder_7d493 : List (Nat × Nat) := []
def po_J0_coder_7d493 (kp : Nat → Nat) (L : List Nat) (f0 : Nat → va_E) (σ : SE) : Option Value → (Nat → va_E) → Prop := fun v f => (∃ r : Int32, v = some (.int r) ∧ (r.toInt = 0)) ∧ FM kp L ms_J0_coder_7d493 f0 f
set_option maxHeartbeats 4000000 in
set_option maxRecDepth 100000 in
theorem c_J0_coder_7d493 (l : Launch) (G : va_G) (cI cJ cZ cD cR cT : ClassId) (kp : Nat → Nat) (L : List Nat) (f0 : Nat → va_E) (hTH : TH cI cJ cZ cD cR cT kp L f0) (sz : Nat) (σ : SE) : Met l yJ0_coder_7d493 (Cond.code yJ0_coder_7d493 cJ0_coder_7d493 1 (some .byte) :: wTab) ({ frames := 1, cells := 0, slots := 0, locals := 40 }) (va_Pc [.ref σ.q] (PreWS σ G (tys6 cI cJ cZ cD cR cT) (va_pl L f0) sz)) (QT (po_J0_coder_7d493 kp L f0 σ) G cI cJ cZ cD cR cT (va_A (va_pl L f0) sz) kp L) 0 0 (va_A (va_pl L f0) sz) := by
  refine metTS (by decide) (Nat.le_of_ble_eq_true rfl) hTH ?_
  intro p e s m below meth c A ls E hSX hW hl
  obtain ⟨hx, hb, -, hml, hown, hts, -, -, -⟩ := id E
  have hF : FM kp L ms_J0_coder_7d493 f0 f0 := FM.rf
  have hl : lv_has ls 1 [(0, .ref σ.q)] := hl
  refine s_compact E hSX hW tw_897 dJ0_coder_7d493_0 ?_
  refine q_if_eq (X := 1) (tgt := 13) hx hb dJ0_coder_7d493_3 (by decide) rfl (fun c => absurd c (by decide)) (fun _ => ?_)
  refine lv_aload_n hx hb dJ0_coder_7d493_6 rfl (lv_at hl 0 rfl) ?_
  refine s_coder E hSX hW tw_2094 dJ0_coder_7d493_7 ?_
  refine lv_goto (tgt := 14) hx hb dJ0_coder_7d493_10 (by decide) ?_
  exact e_B0 E hW rfl ⟨⟨_, rfl, (by have hk : (0 : Int32).toInt = 0 := rfl; first | decide | omega)⟩, hF⟩ dJ0_coder_7d493_14
def ms_J0_length_8abf5 : List (Nat × Nat) := []
def po_J0_length_8abf5 (kp : Nat → Nat) (L : List Nat) (f0 : Nat → va_E) (σ : SE) : Option Value → (Nat → va_E) → Prop := fun v f => (∃ r : Int32, v = some (.int r) ∧ (r.toInt = ((σ.n : Nat) : Int) ∧ 0 ≤ r.toInt ∧ r.toInt ≤ 65535)) ∧ FM kp L ms_J0_length_8abf5 f0 f
set_option maxHeartbeats 4000000 in
set_option maxRecDepth 100000 in
theorem c_J0_length_8abf5 (l : Launch) (G : va_G) (cI cJ cZ cD cR cT : ClassId) (kp : Nat → Nat) (L : List Nat) (f0 : Nat → va_E) (hTH : TH cI cJ cZ cD cR cT kp L f0) (sz : Nat) (σ : SE) : Met l yJ0_length_8abf5 (Cond.code yJ0_length_8abf5 cJ0_length_8abf5 1 (some .int) :: wTab) ({ frames := 2, cells := 0, slots := 0, locals := 60 }) (va_Pc [.ref σ.q] (PreWS σ G (tys6 cI cJ cZ cD cR cT) (va_pl L f0) sz)) (QT (po_J0_length_8abf5 kp L f0 σ) G cI cJ cZ cD cR cT (va_A (va_pl L f0) sz) kp L) 0 0 (va_A (va_pl L f0) sz) := by
  refine metTS (by decide) (Nat.le_of_ble_eq_true rfl) hTH ?_
  intro p e s m below meth c A ls E hSX hW hl
  obtain ⟨hx, hb, -, hml, hown, hts, -, -, -⟩ := id E
  have hF : FM kp L ms_J0_length_8abf5 f0 f0 := FM.rf
  have hl : lv_has ls 1 [(0, .ref σ.q)] := hl
  refine lv_aload_n hx hb dJ0_length_8abf5_0 rfl (lv_at hl 0 rfl) ?_
  refine s_value E hSX hW tw_2093 dJ0_length_8abf5_1 ?_
  have hn3 := σ.hn
  refine s_blen E hSX hW dJ0_length_8abf5_4 (fun y1 h2 => ?_)
  have b4 : 0 ≤ y1.toInt ∧ y1.toInt ≤ 65535 := by omega
  refine lv_aload_n hx hb dJ0_length_8abf5_5 rfl (lv_at hl 0 rfl) ?_
  refine t_callQS (As := []) (rest := [.int y1]) E hSX hW (c_J0_coder_7d493 l G cI cJ cZ cD cR cT kp L f0 hW.2.2.2 _ σ) wk_J0_coder_7d493 tw_893 rfl ⟨Nat.le_of_ble_eq_true rfl, Nat.le_of_ble_eq_true rfl⟩ ⟨rfl, rfl⟩ hl.1 rfl (Nat.le_of_ble_eq_true rfl) dJ0_length_8abf5_6 ⟨Nat.le_of_ble_eq_true rfl, Nat.le_of_ble_eq_true rfl⟩ (fun v5 f6 H locs q7 hW => ?_)
  obtain ⟨⟨x9, rfl, p10⟩, g8⟩ := q7
  obtain rfl : (0 : Int32) = x9 := Int32.toInt_inj.mp (Eq.trans (by decide) (Eq.symm (by omega : x9.toInt = 0)))
  have hF := FM.tr hF g8 rfl
  refine q_ishr0 hx hb dJ0_length_8abf5_9 ?_
  exact e_I E hW rfl ⟨⟨_, rfl, (by first | omega | trivial)⟩, hF⟩ dJ0_length_8abf5_10
def ms_J0_isLatin1_aae02 : List (Nat × Nat) := []
def po_J0_isLatin1_aae02 (kp : Nat → Nat) (L : List Nat) (f0 : Nat → va_E) (σ : SE) : Option Value → (Nat → va_E) → Prop := fun v f => (∃ r : Int32, v = some (.int r) ∧ (r.toInt = 1)) ∧ FM kp L ms_J0_isLatin1_aae02 f0 f
set_option maxHeartbeats 4000000 in
set_option maxRecDepth 100000 in
theorem c_J0_isLatin1_aae02 (l : Launch) (G : va_G) (cI cJ cZ cD cR cT : ClassId) (kp : Nat → Nat) (L : List Nat) (f0 : Nat → va_E) (hTH : TH cI cJ cZ cD cR cT kp L f0) (sz : Nat) (σ : SE) : Met l yJ0_isLatin1_aae02 (Cond.code yJ0_isLatin1_aae02 cJ0_isLatin1_aae02 1 (some .boolean) :: wTab) ({ frames := 1, cells := 0, slots := 0, locals := 40 }) (va_Pc [.ref σ.q] (PreWS σ G (tys6 cI cJ cZ cD cR cT) (va_pl L f0) sz)) (QT (po_J0_isLatin1_aae02 kp L f0 σ) G cI cJ cZ cD cR cT (va_A (va_pl L f0) sz) kp L) 0 0 (va_A (va_pl L f0) sz) := by
  refine metTS (by decide) (Nat.le_of_ble_eq_true rfl) hTH ?_
  intro p e s m below meth c A ls E hSX hW hl
  obtain ⟨hx, hb, -, hml, hown, hts, -, -, -⟩ := id E
  have hF : FM kp L ms_J0_isLatin1_aae02 f0 f0 := FM.rf
  have hl : lv_has ls 1 [(0, .ref σ.q)] := hl
  refine s_compact E hSX hW tw_897 dJ0_isLatin1_aae02_0 ?_
  refine q_if_eq (X := 1) (tgt := 17) hx hb dJ0_isLatin1_aae02_3 (by decide) rfl (fun c => absurd c (by decide)) (fun _ => ?_)
  refine lv_aload_n hx hb dJ0_isLatin1_aae02_6 rfl (lv_at hl 0 rfl) ?_
  refine s_coder E hSX hW tw_2094 dJ0_isLatin1_aae02_7 ?_
  refine q_if_ne (X := 0) (tgt := 17) hx hb dJ0_isLatin1_aae02_10 (by decide) rfl (fun c => absurd c (by decide)) (fun _ => ?_)
  refine lv_iconst (v := 1) hx hb dJ0_isLatin1_aae02_13 (by decide) ?_
  refine lv_goto (tgt := 18) hx hb dJ0_isLatin1_aae02_14 (by decide) ?_
  exact e_Z E hW rfl (by decide) ⟨⟨_, rfl, (by have hk : (1 : Int32).toInt = 1 := rfl; first | decide | omega)⟩, hF⟩ dJ0_isLatin1_aae02_18
def ms_J3_checkIndex_8e157 : List (Nat × Nat) := []
def po_J3_checkIndex_8e157 (kp : Nat → Nat) (L : List Nat) (f0 : Nat → va_E) (σ : SE) (u1 : Int32) (u2 : Int32) : Option Value → (Nat → va_E) → Prop := fun v f => (∃ r : Int32, v = some (.int r) ∧ ((0 : Int) ≤ r.toInt ∧ r.toInt ≤ 2147483646)) ∧ FM kp L ms_J3_checkIndex_8e157 f0 f
set_option maxHeartbeats 4000000 in
set_option maxRecDepth 100000 in
theorem c_J3_checkIndex_8e157 (l : Launch) (G : va_G) (cI cJ cZ cD cR cT : ClassId) (kp : Nat → Nat) (L : List Nat) (f0 : Nat → va_E) (hTH : TH cI cJ cZ cD cR cT kp L f0) (sz : Nat) (σ : SE) (u1 : Int32) (u2 : Int32) (ow : Option Nat) (hix : 0 ≤ u1.toInt ∧ u1.toInt < u2.toInt) : Met l yJ3_checkIndex_8e157 (Cond.code yJ3_checkIndex_8e157 cJ3_checkIndex_8e157 3 (some .int) :: wTab) ({ frames := 1, cells := 0, slots := 0, locals := 40 }) (va_Pc [.int u1, .int u2, va_rf ow] (PreWS σ G (tys6 cI cJ cZ cD cR cT) (va_pl L f0) sz)) (QT (po_J3_checkIndex_8e157 kp L f0 σ u1 u2) G cI cJ cZ cD cR cT (va_A (va_pl L f0) sz) kp L) 0 0 (va_A (va_pl L f0) sz) := by
  cases ow with
  | none =>
    refine metTS (by decide) (Nat.le_of_ble_eq_true rfl) hTH ?_
    intro p e s m below meth c A ls E hSX hW hl
    obtain ⟨hx, hb, -, hml, hown, hts, -, -, -⟩ := id E
    have hF : FM kp L ms_J3_checkIndex_8e157 f0 f0 := FM.rf
    have hl : lv_has ls 3 [(0, .int u1), (1, .int u2), (2, .null)] := hl
    refine lv_iload_n hx hb dJ3_checkIndex_8e157_0 rfl (lv_at hl 0 rfl) ?_
    refine q_if_lt (tgt := 9) hx hb dJ3_checkIndex_8e157_1 (by decide) rfl (fun c1 => absurd c1 (by omega)) (fun c1 => ?_)
    refine lv_iload_n hx hb dJ3_checkIndex_8e157_4 rfl (lv_at hl 0 rfl) ?_
    refine lv_iload_n hx hb dJ3_checkIndex_8e157_5 rfl (lv_at hl 1 rfl) ?_
    refine q_icmp_lt (tgt := 16) hx hb dJ3_checkIndex_8e157_6 (by decide) rfl rfl (fun c2 => ?_) (fun c2 => absurd hix.2 (by omega))
    have hb3 : u1.toInt ≤ 2147483646 := by have := i32_b u2; omega
    refine lv_iload_n hx hb dJ3_checkIndex_8e157_16 rfl (lv_at hl 0 rfl) ?_
    exact e_I E hW rfl ⟨⟨_, rfl, (by first | omega | trivial)⟩, hF⟩ dJ3_checkIndex_8e157_17
  | some a =>
    refine metTS (by decide) (Nat.le_of_ble_eq_true rfl) hTH ?_
    intro p e s m below meth c A ls E hSX hW hl
    obtain ⟨hx, hb, -, hml, hown, hts, -, -, -⟩ := id E
    have hF : FM kp L ms_J3_checkIndex_8e157 f0 f0 := FM.rf
    have hl : lv_has ls 3 [(0, .int u1), (1, .int u2), (2, .ref a)] := hl
    refine lv_iload_n hx hb dJ3_checkIndex_8e157_0 rfl (lv_at hl 0 rfl) ?_
    refine q_if_lt (tgt := 9) hx hb dJ3_checkIndex_8e157_1 (by decide) rfl (fun c1 => absurd c1 (by omega)) (fun c1 => ?_)
    refine lv_iload_n hx hb dJ3_checkIndex_8e157_4 rfl (lv_at hl 0 rfl) ?_
    refine lv_iload_n hx hb dJ3_checkIndex_8e157_5 rfl (lv_at hl 1 rfl) ?_
    refine q_icmp_lt (tgt := 16) hx hb dJ3_checkIndex_8e157_6 (by decide) rfl rfl (fun c2 => ?_) (fun c2 => absurd hix.2 (by omega))
    have hb3 : u1.toInt ≤ 2147483646 := by have := i32_b u2; omega
    refine lv_iload_n hx hb dJ3_checkIndex_8e157_16 rfl (lv_at hl 0 rfl) ?_
    exact e_I E hW rfl ⟨⟨_, rfl, (by first | omega | trivial)⟩, hF⟩ dJ3_checkIndex_8e157_17
def ms_J0_checkIndex_df160 : List (Nat × Nat) := []
def po_J0_checkIndex_df160 (kp : Nat → Nat) (L : List Nat) (f0 : Nat → va_E) (σ : SE) (u1 : Int32) (u2 : Int32) : Option Value → (Nat → va_E) → Prop := fun v f => v = none ∧ FM kp L ms_J0_checkIndex_df160 f0 f
set_option maxHeartbeats 4000000 in
set_option maxRecDepth 100000 in
theorem c_J0_checkIndex_df160 (l : Launch) (G : va_G) (cI cJ cZ cD cR cT : ClassId) (kp : Nat → Nat) (L : List Nat) (f0 : Nat → va_E) (hTH : TH cI cJ cZ cD cR cT kp L f0) (sz : Nat) (σ : SE) (u1 : Int32) (u2 : Int32) (hix : 0 ≤ u1.toInt ∧ u1.toInt < u2.toInt) : Met l yJ0_checkIndex_df160 (Cond.code yJ0_checkIndex_df160 cJ0_checkIndex_df160 2 none :: wTab) ({ frames := 2, cells := 0, slots := 0, locals := 62 }) (va_Pc [.int u1, .int u2] (PreWS σ G (tys6 cI cJ cZ cD cR cT) (va_pl L f0) sz)) (QT (po_J0_checkIndex_df160 kp L f0 σ u1 u2) G cI cJ cZ cD cR cT (va_A (va_pl L f0) sz) kp L) 0 0 (va_A (va_pl L f0) sz) := by
  refine metTS (by decide) (Nat.le_of_ble_eq_true rfl) hTH ?_
  intro p e s m below meth c A ls E hSX hW hl
  obtain ⟨hx, hb, -, hml, hown, hts, -, -, -⟩ := id E
  have hF : FM kp L ms_J0_checkIndex_df160 f0 f0 := FM.rf
  have hl : lv_has ls 2 [(0, .int u1), (1, .int u2)] := hl
  refine lv_iload_n hx hb dJ0_checkIndex_df160_0 rfl (lv_at hl 0 rfl) ?_
  refine lv_iload_n hx hb dJ0_checkIndex_df160_1 rfl (lv_at hl 1 rfl) ?_
  refine s_fmt E hSX hW tw_913 dJ0_checkIndex_df160_2 ?_
  refine t_callSS (As := [.int u1, .int u2, va_rf σ.w]) (rest := []) E hSX hW (c_J3_checkIndex_8e157 l G cI cJ cZ cD cR cT kp L f0 hW.2.2.2 _ σ u1 u2 σ.w (by omega)) wk_J3_checkIndex_8e157 tw_915 rfl ⟨Nat.le_of_ble_eq_true rfl, Nat.le_of_ble_eq_true rfl⟩ ⟨rfl, rfl⟩ hl.1 rfl (Nat.le_of_ble_eq_true rfl) dJ0_checkIndex_df160_5 ⟨Nat.le_of_ble_eq_true rfl, Nat.le_of_ble_eq_true rfl⟩ (fun v1 f2 H locs q3 hW => ?_)
  obtain ⟨⟨x5, rfl, p6⟩, g4⟩ := q3
  have hF := FM.tr hF g4 rfl
  refine lv_pop hx hb dJ0_checkIndex_df160_8 rfl ?_
  exact e_V E hW rfl ⟨rfl, hF⟩ dJ0_checkIndex_df160_9
def ms_J1_charAt_3b067 : List (Nat × Nat) := []
def po_J1_charAt_3b067 (kp : Nat → Nat) (L : List Nat) (f0 : Nat → va_E) (σ : SE) (u2 : Int32) : Option Value → (Nat → va_E) → Prop := fun v f => (∃ r : Int32, v = some (.int r) ∧ (0 ≤ r.toInt ∧ r.toInt ≤ 65535)) ∧ FM kp L ms_J1_charAt_3b067 f0 f
set_option maxHeartbeats 4000000 in
set_option maxRecDepth 100000 in
theorem c_J1_charAt_3b067 (l : Launch) (G : va_G) (cI cJ cZ cD cR cT : ClassId) (kp : Nat → Nat) (L : List Nat) (f0 : Nat → va_E) (hTH : TH cI cJ cZ cD cR cT kp L f0) (sz : Nat) (σ : SE) (u2 : Int32) (hix : 0 ≤ u2.toInt ∧ u2.toInt < ((σ.n : Nat) : Int)) : Met l yJ1_charAt_3b067 (Cond.code yJ1_charAt_3b067 cJ1_charAt_3b067 2 (some .char) :: wTab) ({ frames := 3, cells := 0, slots := 0, locals := 83 }) (va_Pc [.ref σ.v, .int u2] (PreWS σ G (tys6 cI cJ cZ cD cR cT) (va_pl L f0) sz)) (QT (po_J1_charAt_3b067 kp L f0 σ u2) G cI cJ cZ cD cR cT (va_A (va_pl L f0) sz) kp L) 0 0 (va_A (va_pl L f0) sz) := by
  refine metTS (by decide) (Nat.le_of_ble_eq_true rfl) hTH ?_
  intro p e s m below meth c A ls E hSX hW hl
  obtain ⟨hx, hb, -, hml, hown, hts, -, -, -⟩ := id E
  have hF : FM kp L ms_J1_charAt_3b067 f0 f0 := FM.rf
  have hl : lv_has ls 2 [(0, .ref σ.v), (1, .int u2)] := hl
  refine lv_iload_n hx hb dJ1_charAt_3b067_0 rfl (lv_at hl 1 rfl) ?_
  refine lv_aload_n hx hb dJ1_charAt_3b067_1 rfl (lv_at hl 0 rfl) ?_
  have hn3 := σ.hn
  refine s_blen E hSX hW dJ1_charAt_3b067_2 (fun y1 h2 => ?_)
  have b4 : 0 ≤ y1.toInt ∧ y1.toInt ≤ 65535 := by omega
  refine t_callSS (As := [.int u2, .int y1]) (rest := []) E hSX hW (c_J0_checkIndex_df160 l G cI cJ cZ cD cR cT kp L f0 hW.2.2.2 _ σ u2 y1 (by omega)) wk_J0_checkIndex_df160 tw_910 rfl ⟨Nat.le_of_ble_eq_true rfl, Nat.le_of_ble_eq_true rfl⟩ ⟨rfl, rfl⟩ hl.1 rfl (Nat.le_of_ble_eq_true rfl) dJ1_charAt_3b067_3 ⟨Nat.le_of_ble_eq_true rfl, Nat.le_of_ble_eq_true rfl⟩ (fun v5 f6 H locs q7 hW => ?_)
  obtain ⟨rfl, g8⟩ := q7
  have hF := FM.tr hF g8 rfl
  refine lv_aload_n hx hb dJ1_charAt_3b067_6 rfl (lv_at hl 0 rfl) ?_
  refine lv_iload_n hx hb dJ1_charAt_3b067_7 rfl (lv_at hl 1 rfl) ?_
  refine s_bald E hSX hW ⟨by omega, by omega⟩ dJ1_charAt_3b067_8 (fun y9 => ?_)
  refine lv_sipush (v := 255) hx hb dJ1_charAt_3b067_9 (by decide) ?_
  refine q_iand (M := 255) (k := 8) hx hb dJ1_charAt_3b067_12 (by decide) (by decide) (by decide) (fun x10 h11 => ?_)
  refine q_i2c hx hb dJ1_charAt_3b067_13 (fun x12 h13 => ?_)
  exact e_C E hW rfl (nar_c (by omega)) ⟨⟨_, rfl, (by first | omega | trivial)⟩, hF⟩ dJ1_charAt_3b067_14
def ms_J0_charAt_5068e : List (Nat × Nat) := []
def po_J0_charAt_5068e (kp : Nat → Nat) (L : List Nat) (f0 : Nat → va_E) (σ : SE) (u1 : Int32) : Option Value → (Nat → va_E) → Prop := fun v f => (∃ r : Int32, v = some (.int r) ∧ (0 ≤ r.toInt ∧ r.toInt ≤ 65535)) ∧ FM kp L ms_J0_charAt_5068e f0 f
set_option maxHeartbeats 4000000 in
set_option maxRecDepth 100000 in
theorem c_J0_charAt_5068e (l : Launch) (G : va_G) (cI cJ cZ cD cR cT : ClassId) (kp : Nat → Nat) (L : List Nat) (f0 : Nat → va_E) (hTH : TH cI cJ cZ cD cR cT kp L f0) (sz : Nat) (σ : SE) (u1 : Int32) (hix : 0 ≤ u1.toInt ∧ u1.toInt < ((σ.n : Nat) : Int)) : Met l yJ0_charAt_5068e (Cond.code yJ0_charAt_5068e cJ0_charAt_5068e 2 (some .char) :: wTab) ({ frames := 4, cells := 0, slots := 0, locals := 104 }) (va_Pc [.ref σ.q, .int u1] (PreWS σ G (tys6 cI cJ cZ cD cR cT) (va_pl L f0) sz)) (QT (po_J0_charAt_5068e kp L f0 σ u1) G cI cJ cZ cD cR cT (va_A (va_pl L f0) sz) kp L) 0 0 (va_A (va_pl L f0) sz) := by
  refine metTS (by decide) (Nat.le_of_ble_eq_true rfl) hTH ?_
  intro p e s m below meth c A ls E hSX hW hl
  obtain ⟨hx, hb, -, hml, hown, hts, -, -, -⟩ := id E
  have hF : FM kp L ms_J0_charAt_5068e f0 f0 := FM.rf
  have hl : lv_has ls 2 [(0, .ref σ.q), (1, .int u1)] := hl
  refine lv_aload_n hx hb dJ0_charAt_5068e_0 rfl (lv_at hl 0 rfl) ?_
  refine t_callQS (As := []) (rest := []) E hSX hW (c_J0_isLatin1_aae02 l G cI cJ cZ cD cR cT kp L f0 hW.2.2.2 _ σ) wk_J0_isLatin1_aae02 tw_903 rfl ⟨Nat.le_of_ble_eq_true rfl, Nat.le_of_ble_eq_true rfl⟩ ⟨rfl, rfl⟩ hl.1 rfl (Nat.le_of_ble_eq_true rfl) dJ0_charAt_5068e_1 ⟨Nat.le_of_ble_eq_true rfl, Nat.le_of_ble_eq_true rfl⟩ (fun v1 f2 H locs q3 hW => ?_)
  obtain ⟨⟨x5, rfl, p6⟩, g4⟩ := q3
  obtain rfl : (1 : Int32) = x5 := Int32.toInt_inj.mp (Eq.trans (by decide) (Eq.symm (by omega : x5.toInt = 1)))
  have hF := FM.tr hF g4 rfl
  refine q_if_eq (X := 1) (tgt := 16) hx hb dJ0_charAt_5068e_4 (by decide) rfl (fun c => absurd c (by decide)) (fun _ => ?_)
  refine lv_aload_n hx hb dJ0_charAt_5068e_7 rfl (lv_at hl 0 rfl) ?_
  refine s_value E hSX hW tw_2093 dJ0_charAt_5068e_8 ?_
  refine lv_iload_n hx hb dJ0_charAt_5068e_11 rfl (lv_at hl 1 rfl) ?_
  refine t_callSS (As := [.ref σ.v, .int u1]) (rest := []) E hSX hW (c_J1_charAt_3b067 l G cI cJ cZ cD cR cT kp L f2 hW.2.2.2 _ σ u1 (by omega)) wk_J1_charAt_3b067 tw_907 rfl ⟨Nat.le_of_ble_eq_true rfl, Nat.le_of_ble_eq_true rfl⟩ ⟨rfl, rfl⟩ hl.1 rfl (Nat.le_of_ble_eq_true rfl) dJ0_charAt_5068e_12 ⟨Nat.le_of_ble_eq_true rfl, Nat.le_of_ble_eq_true rfl⟩ (fun v7 f8 H locs q9 hW => ?_)
  obtain ⟨⟨x11, rfl, p12⟩, g10⟩ := q9
  have hF := FM.tr hF g10 rfl
  exact e_C E hW rfl (nar_c (by omega)) ⟨⟨_, rfl, (by first | omega | trivial)⟩, hF⟩ dJ0_charAt_5068e_15
def ms_X5_wordIn : List (Nat × Nat) := []
def po_X5_wordIn (kp : Nat → Nat) (L : List Nat) (f0 : Nat → va_E) (σ : SE) (u1 : Nat) (u2 : Int32) (u3 : Int32) : Option Value → (Nat → va_E) → Prop := fun v f => (∃ r : Int32, v = some (.int r) ∧ (True)) ∧ FM kp L ms_X5_wordIn f0 f
set_option maxHeartbeats 4000000 in
set_option maxRecDepth 100000 in
theorem c_X5_wordIn (l : Launch) (G : va_G) (cI cJ cZ cD cR cT : ClassId) (kp : Nat → Nat) (L : List Nat) (f0 : Nat → va_E) (hTH : TH cI cJ cZ cD cR cT kp L f0) (sz : Nat) (σ : SE) (u1 : Nat) (u2 : Int32) (u3 : Int32) (ru1 : RK kp L u1 8) (pu2 : (0 : Int) ≤ u2.toInt ∧ u2.toInt ≤ 399) (pu3 : (1 : Int) ≤ u3.toInt ∧ u3.toInt ≤ 400) : Met l yX5_wordIn (Cond.code yX5_wordIn cX5_wordIn 9 (some .int) :: wTab) ({ frames := 5, cells := 0, slots := 0, locals := 125 }) (va_Pc [.ref u1, .int u2, .int u3] (PreWS σ G (tys6 cI cJ cZ cD cR cT) (va_pl L f0) sz)) (QT (po_X5_wordIn kp L f0 σ u1 u2 u3) G cI cJ cZ cD cR cT (va_A (va_pl L f0) sz) kp L) 0 0 (va_A (va_pl L f0) sz) := by
  refine metTS (by decide) (Nat.le_of_ble_eq_true rfl) hTH ?_
  intro p e s m below meth c A ls E hSX hW hl
  obtain ⟨hx, hb, -, hml, hown, hts, -, -, -⟩ := id E
  have hF : FM kp L ms_X5_wordIn f0 f0 := FM.rf
  have hl : lv_has ls 9 [(0, .ref u1), (1, .int u2), (2, .int u3)] := hl
  refine lv_sipush (v := 256) hx hb dX5_wordIn_0 (by decide) ?_
  refine lv_istore_n (lv' := [(3, .int 256), (0, .ref u1), (1, .int u2), (2, .int u3)]) hx hb dX5_wordIn_3 rfl hl (by decide) rfl (fun ls hl => ?_)
  refine lv_iload_n hx hb dX5_wordIn_4 rfl (lv_at hl 3 rfl) ?_
  refine lv_iload_n hx hb dX5_wordIn_5 rfl (lv_at hl 2 rfl) ?_
  refine q_isub hx hb dX5_wordIn_6 rfl rfl (by omega) (fun x1 h2 => ?_)
  refine lv_istore (lv' := [(4, .int x1), (3, .int 256), (0, .ref u1), (1, .int u2), (2, .int u3)]) hx hb dX5_wordIn_7 hl (by decide) rfl (fun ls hl => ?_)
  refine lv_iconst (v := 0) hx hb dX5_wordIn_9 (by decide) ?_
  refine lv_istore (lv' := [(5, .int 0), (4, .int x1), (3, .int 256), (0, .ref u1), (1, .int u2), (2, .int u3)]) hx hb dX5_wordIn_10 hl (by decide) rfl (fun ls hl => ?_)
  refine lv_iconst (v := 0) hx hb dX5_wordIn_12 (by decide) ?_
  refine lv_istore (lv' := [(6, .int 0), (5, .int 0), (4, .int x1), (3, .int 256), (0, .ref u1), (1, .int u2), (2, .int u3)]) hx hb dX5_wordIn_13 hl (by decide) rfl (fun ls hl => ?_)
  have L3757 : ∀ (n : Nat), ∀ (f3752 : Nat → va_E) (y3753 : Int32) (y3755 : Int32) (y3756 : Int32) (b3754 : (0 : Int) ≤ y3753.toInt ∧ y3753.toInt ≤ 71883) (hm : (71884 : Int) - y3753.toInt ≤ n) (H : Heap) (locs : List Loc) (ls : Array Slot), WS G cI cJ cZ cD cR cT A kp L f3752 s H locs → FM kp L ms_X5_wordIn f0 f3752 → lv_has ls 9 [(6, .int y3753), (5, .int y3755), (4, .int x1), (3, .int y3756), (0, .ref u1), (1, .int u2), (2, .int u3)] → W p l e ({ frames := 5, cells := 0, slots := 0, locals := 125 }) s m ([.ref u1, .int u2, .int u3] : List Value).toArray below meth c H locs 0 0 (MQ below (QT (po_X5_wordIn kp L f0 σ u1 u2 u3) G cI cJ cZ cD cR cT A kp L) ([.ref u1, .int u2, .int u3] : List Value).toArray s 0 0 A) (F0 m 15 ls []) := by
    intro n
    induction n with
    | zero =>
      intro f3752 y3753 y3755 y3756 b3754 hm H locs ls hW hF hl
      have hz := i32_b y3753
      exfalso; omega
    | succ n ih =>
      intro f3752 y3753 y3755 y3756 b3754 hm H locs ls hW hF hl
      have ih15 := ih
      refine lv_iload hx hb dX5_wordIn_15 (lv_at hl 0 rfl) ?_
      refine s_ldc E hSX dX5_wordIn_17 ?_
      refine t_callQS (As := []) (rest := [.int y3753]) E hSX hW (c_J0_length_8abf5 l G cI cJ cZ cD cR cT kp L f3752 hW.2.2.2 _ σ) wk_J0_length_8abf5 tw_889 rfl ⟨Nat.le_of_ble_eq_true rfl, Nat.le_of_ble_eq_true rfl⟩ ⟨rfl, rfl⟩ hl.1 rfl (Nat.le_of_ble_eq_true rfl) dX5_wordIn_19 ⟨Nat.le_of_ble_eq_true rfl, Nat.le_of_ble_eq_true rfl⟩ (fun v3758 f3759 H locs q3760 hW => ?_)
      obtain ⟨⟨x3762, rfl, p3763⟩, g3761⟩ := q3760
      have hF := FM.tr hF g3761 rfl
      refine q_icmp_ge (tgt := 113) hx hb dX5_wordIn_22 (by decide) rfl rfl (fun c3764 => ?_) (fun c3764 => ?_)
      · refine lv_sipush (v := 300) hx hb dX5_wordIn_113 (by decide) ?_
        exact e_I E hW rfl ⟨⟨_, rfl, trivial⟩, hF⟩ dX5_wordIn_116
      · refine s_ldc E hSX dX5_wordIn_25 ?_
        refine lv_iload hx hb dX5_wordIn_27 (lv_at hl 0 rfl) ?_
        refine t_callQS (As := [.int y3753]) (rest := []) E hSX hW (c_J0_charAt_5068e l G cI cJ cZ cD cR cT kp L f3759 hW.2.2.2 _ σ y3753 (by omega)) wk_J0_charAt_5068e tw_899 rfl ⟨Nat.le_of_ble_eq_true rfl, Nat.le_of_ble_eq_true rfl⟩ ⟨rfl, rfl⟩ hl.1 rfl (Nat.le_of_ble_eq_true rfl) dX5_wordIn_29 ⟨Nat.le_of_ble_eq_true rfl, Nat.le_of_ble_eq_true rfl⟩ (fun v3765 f3766 H locs q3767 hW => ?_)
        obtain ⟨⟨x3769, rfl, p3770⟩, g3768⟩ := q3767
        have hF := FM.tr hF g3768 rfl
        refine lv_istore (lv' := [(7, .int x3769), (6, .int y3753), (5, .int y3755), (4, .int x1), (3, .int y3756), (0, .ref u1), (1, .int u2), (2, .int u3)]) hx hb dX5_wordIn_32 hl (by decide) rfl (fun ls hl => ?_)
        refine lv_iload hx hb dX5_wordIn_34 (lv_at hl 0 rfl) ?_
        refine lv_bipush (v := 32) hx hb dX5_wordIn_36 (by decide) ?_
        refine q_icmp_eq (Y := 32) (tgt := 92) hx hb dX5_wordIn_38 (by decide) rfl rfl (fun c3771 => ?_) (fun c3771 => ?_)
        · refine lv_iload hx hb dX5_wordIn_92 (lv_at hl 2 rfl) ?_
          refine lv_iload hx hb dX5_wordIn_94 (lv_at hl 3 rfl) ?_
          refine q_icmp_ne (tgt := 101) hx hb dX5_wordIn_96 (by decide) rfl rfl (fun c3772 => ?_) (fun c3772 => ?_)
          · refine u_iinc hx hb dX5_wordIn_101 hl (k := 4) rfl (by decide) (fun i3773 ls hl => ?_)
            have hl : lv_has ls 9 [(3, .int i3773), (7, .int x3769), (6, .int y3753), (5, .int y3755), (4, .int x1), (0, .ref u1), (1, .int u2), (2, .int u3)] := hl
            refine lv_iconst (v := 0) hx hb dX5_wordIn_104 (by decide) ?_
            refine lv_istore (lv' := [(5, .int 0), (3, .int i3773), (7, .int x3769), (6, .int y3753), (4, .int x1), (0, .ref u1), (1, .int u2), (2, .int u3)]) hx hb dX5_wordIn_105 hl (by decide) rfl (fun ls hl => ?_)
            refine q_iinc hx hb dX5_wordIn_107 hl (k := 3) rfl rfl rfl (by omega) (by decide) (fun i3774 ls h3775 hl => ?_)
            have hl : lv_has ls 9 [(6, .int i3774), (5, .int 0), (3, .int i3773), (7, .int x3769), (4, .int x1), (0, .ref u1), (1, .int u2), (2, .int u3)] := hl
            refine lv_goto (tgt := 15) hx hb dX5_wordIn_110 (by decide) ?_
            have hk3776 : (0 : Int32).toInt = 0 := rfl
            exact ih15 f3766 i3774 0 i3773 (by omega) (by omega) _ _ _ hW hF (lv_sub hl [0, 1, 4, 2, 5, 6, 7] rfl)
          · refine lv_iload_n hx hb dX5_wordIn_99 rfl (lv_at hl 4 rfl) ?_
            exact e_I E hW rfl ⟨⟨_, rfl, trivial⟩, hF⟩ dX5_wordIn_100
        · refine lv_iload hx hb dX5_wordIn_41 (lv_at hl 2 rfl) ?_
          have J3789 : ∀ (y3787 : Int32) (b3788 : (0 : Int) ≤ y3787.toInt ∧ y3787.toInt ≤ 1) (H : Heap) (locs : List Loc) (ls : Array Slot), WS G cI cJ cZ cD cR cT A kp L f3766 s H locs → FM kp L ms_X5_wordIn f0 f3766 → lv_has ls 9 [(7, .int x3769), (6, .int y3753), (5, .int y3755), (4, .int x1), (3, .int y3756), (0, .ref u1), (1, .int u2), (2, .int u3)] → W p l e ({ frames := 5, cells := 0, slots := 0, locals := 125 }) s m ([.ref u1, .int u2, .int u3] : List Value).toArray below meth c H locs 0 0 (MQ below (QT (po_X5_wordIn kp L f0 σ u1 u2 u3) G cI cJ cZ cD cR cT A kp L) ([.ref u1, .int u2, .int u3] : List Value).toArray s 0 0 A) (F0 m 72 ls [.int y3787]) := by
            intro y3787 b3788 H locs ls hW hF hl
            refine lv_istore (lv' := [(8, .int y3787), (7, .int x3769), (6, .int y3753), (5, .int y3755), (4, .int x1), (3, .int y3756), (0, .ref u1), (1, .int u2), (2, .int u3)]) hx hb dX5_wordIn_72 hl (by decide) rfl (fun ls hl => ?_)
            refine lv_iload hx hb dX5_wordIn_74 (lv_at hl 0 rfl) ?_
            have J3792 : ∀ (y3791 : Int32) (H : Heap) (locs : List Loc) (ls : Array Slot), WS G cI cJ cZ cD cR cT A kp L f3766 s H locs → FM kp L ms_X5_wordIn f0 f3766 → lv_has ls 9 [(8, .int y3787), (7, .int x3769), (6, .int y3753), (5, .int y3755), (4, .int x1), (3, .int y3756), (0, .ref u1), (1, .int u2), (2, .int u3)] → W p l e ({ frames := 5, cells := 0, slots := 0, locals := 125 }) s m ([.ref u1, .int u2, .int u3] : List Value).toArray below meth c H locs 0 0 (MQ below (QT (po_X5_wordIn kp L f0 σ u1 u2 u3) G cI cJ cZ cD cR cT A kp L) ([.ref u1, .int u2, .int u3] : List Value).toArray s 0 0 A) (F0 m 87 ls [.int y3791]) := by
              intro y3791 H locs ls hW hF hl
              refine lv_istore (lv' := [(5, .int y3791), (8, .int y3787), (7, .int x3769), (6, .int y3753), (4, .int x1), (3, .int y3756), (0, .ref u1), (1, .int u2), (2, .int u3)]) hx hb dX5_wordIn_87 hl (by decide) rfl (fun ls hl => ?_)
              refine lv_goto (tgt := 107) hx hb dX5_wordIn_89 (by decide) ?_
              refine q_iinc hx hb dX5_wordIn_107 hl (k := 3) rfl rfl rfl (by omega) (by decide) (fun i3793 ls h3794 hl => ?_)
              have hl : lv_has ls 9 [(6, .int i3793), (5, .int y3791), (8, .int y3787), (7, .int x3769), (4, .int x1), (3, .int y3756), (0, .ref u1), (1, .int u2), (2, .int u3)] := hl
              refine lv_goto (tgt := 15) hx hb dX5_wordIn_110 (by decide) ?_
              exact ih15 f3766 i3793 y3791 y3756 (by omega) (by omega) _ _ _ hW hF (lv_sub hl [0, 1, 4, 5, 6, 7, 8] rfl)
            refine q_if_eq (tgt := 86) hx hb dX5_wordIn_76 (by decide) rfl (fun c3795 => ?_) (fun c3795 => ?_)
            · refine lv_iconst (v := (-1)) hx hb dX5_wordIn_86 (by decide) ?_
              exact J3792 (-1)  _ _ _ hW hF (lv_sub hl [0, 1, 2, 3, 4, 5, 6, 7, 8] rfl)
            · refine lv_iload hx hb dX5_wordIn_79 (lv_at hl 3 rfl) ?_
              refine lv_iconst (v := 1) hx hb dX5_wordIn_81 (by decide) ?_
              refine u_iadd hx hb dX5_wordIn_82 (fun x3796 => ?_)
              refine lv_goto (tgt := 87) hx hb dX5_wordIn_83 (by decide) ?_
              exact J3792 x3796  _ _ _ hW hF (lv_sub hl [0, 1, 2, 3, 4, 5, 6, 7, 8] rfl)
          refine q_if_lt (tgt := 71) hx hb dX5_wordIn_43 (by decide) rfl (fun c3797 => ?_) (fun c3797 => ?_)
          · refine lv_iconst (v := 0) hx hb dX5_wordIn_71 (by decide) ?_
            exact J3789 0 (by decide) _ _ _ hW hF (lv_sub hl [0, 1, 2, 3, 4, 5, 6, 7] rfl)
          · refine lv_iload hx hb dX5_wordIn_46 (lv_at hl 2 rfl) ?_
            refine lv_iload hx hb dX5_wordIn_48 (lv_at hl 3 rfl) ?_
            refine q_icmp_ge (tgt := 71) hx hb dX5_wordIn_50 (by decide) rfl rfl (fun c3798 => ?_) (fun c3798 => ?_)
            · refine lv_iconst (v := 0) hx hb dX5_wordIn_71 (by decide) ?_
              exact J3789 0 (by decide) _ _ _ hW hF (lv_sub hl [0, 1, 2, 3, 4, 5, 6, 7] rfl)
            · refine lv_aload_n hx hb dX5_wordIn_53 rfl (lv_at hl 5 rfl) ?_
              refine fg_RX5_85 E hW ru1 dX5_wordIn_54 (fun a3799 m3800 r3801 => ?_)
              refine lv_iload_n hx hb dX5_wordIn_57 rfl (lv_at hl 6 rfl) ?_
              refine lv_iload hx hb dX5_wordIn_58 (lv_at hl 2 rfl) ?_
              refine q_iadd hx hb dX5_wordIn_60 rfl rfl (by omega) (fun x3802 h3803 => ?_)
              refine gl_581 E hW r3801 ⟨by omega, by omega⟩ dX5_wordIn_61 (fun y3804 m3805 => ?_)
              refine lv_iload hx hb dX5_wordIn_62 (lv_at hl 0 rfl) ?_
              refine q_icmp_ne (tgt := 71) hx hb dX5_wordIn_64 (by decide) rfl rfl (fun c3807 => ?_) (fun c3807 => ?_)
              · refine lv_iconst (v := 0) hx hb dX5_wordIn_71 (by decide) ?_
                exact J3789 0 (by decide) _ _ _ hW hF (lv_sub hl [0, 1, 2, 3, 4, 5, 6, 7] rfl)
              · refine lv_iconst (v := 1) hx hb dX5_wordIn_67 (by decide) ?_
                refine lv_goto (tgt := 72) hx hb dX5_wordIn_68 (by decide) ?_
                exact J3789 1 (by decide) _ _ _ hW hF (lv_sub hl [0, 1, 2, 3, 4, 5, 6, 7] rfl)
  have hk3808 : (0 : Int32).toInt = 0 := rfl
  have hk3809 : (0 : Int32).toInt = 0 := rfl
  have hk3810 : (256 : Int32).toInt = 256 := rfl
  exact L3757 71884 f0 0 0 256 (by decide) (by omega) _ _ _ hW hF (lv_sub hl [0, 1, 2, 3, 4, 5, 6] rfl)
def ms_X5_split : List (Nat × Nat) := [(5, 11), (412, 0), (413, 0), (414, 0)]
def po_X5_split (kp : Nat → Nat) (L : List Nat) (f0 : Nat → va_E) (σ : SE) (h0 : Nat) (u1 : Nat) : Option Value → (Nat → va_E) → Prop := fun v f => v = none ∧ FM kp L ms_X5_split f0 f ∧ (aI (f (oR (f h0) 12)) (oI (f h0) 11).toNatClampNeg = 302)
set_option maxHeartbeats 4000000 in
set_option maxRecDepth 100000 in
theorem c_X5_split (l : Launch) (G : va_G) (cI cJ cZ cD cR cT : ClassId) (kp : Nat → Nat) (L : List Nat) (f0 : Nat → va_E) (hTH : TH cI cJ cZ cD cR cT kp L f0) (sz : Nat) (σ : SE) (h0 : Nat) (u1 : Nat) (rh0 : RK kp L h0 5) (ru1 : RK kp L u1 8) : Met l yX5_split (Cond.code yX5_split cX5_split 5 none :: wTab) ({ frames := 6, cells := 0, slots := 0, locals := 153 }) (va_Pc [.ref h0, .ref u1] (PreWS σ G (tys6 cI cJ cZ cD cR cT) (va_pl L f0) sz)) (QT (po_X5_split kp L f0 σ h0 u1) G cI cJ cZ cD cR cT (va_A (va_pl L f0) sz) kp L) 0 0 (va_A (va_pl L f0) sz) := by
  refine metTS (by decide) (Nat.le_of_ble_eq_true rfl) hTH ?_
  intro p e s m below meth c A ls E hSX hW hl
  obtain ⟨hx, hb, -, hml, hown, hts, -, -, -⟩ := id E
  have hF : FM kp L ms_X5_split f0 f0 := FM.rf
  have hl : lv_has ls 5 [(0, .ref h0), (1, .ref u1)] := hl
  refine lv_aload_n hx hb dX5_split_0 rfl (lv_at hl 0 rfl) ?_
  refine lv_iconst (v := 0) hx hb dX5_split_1 (by decide) ?_
  refine fp_RX5_69 E hW rh0 (by decide) dX5_split_2 (fun f1 H locs e2 n3 g4 hW => ?_)
  have hF := FM.tr hF g4 rfl
  refine lv_iconst (v := 0) hx hb dX5_split_5 (by decide) ?_
  refine lv_istore_n (lv' := [(2, .int 0), (0, .ref h0), (1, .ref u1)]) hx hb dX5_split_6 rfl hl (by decide) rfl (fun ls hl => ?_)
  refine lv_iconst (v := 0) hx hb dX5_split_7 (by decide) ?_
  refine lv_istore_n (lv' := [(3, .int 0), (2, .int 0), (0, .ref h0), (1, .ref u1)]) hx hb dX5_split_8 rfl hl (by decide) rfl (fun ls hl => ?_)
  have L17102 : ∀ (n : Nat), ∀ (f17093 : Nat → va_E) (y17094 : Int32) (y17096 : Int32) (y17098 : Int32) (b17095 : (0 : Int) ≤ y17094.toInt ∧ y17094.toInt ≤ 400) (b17097 : (0 : Int) ≤ y17096.toInt ∧ y17096.toInt ≤ 400) (m17099 : oI (f17093 h0) 11 = y17098) (b17100 : (0 : Int) ≤ y17098.toInt ∧ y17098.toInt ≤ 400) (v17101 : y17098.toInt ≤ y17094.toInt) (hm : (401 : Int) - y17094.toInt ≤ n) (H : Heap) (locs : List Loc) (ls : Array Slot), WS G cI cJ cZ cD cR cT A kp L f17093 s H locs → FM kp L ms_X5_split f0 f17093 → lv_has ls 5 [(3, .int y17094), (2, .int y17096), (0, .ref h0), (1, .ref u1)] → W p l e ({ frames := 6, cells := 0, slots := 0, locals := 153 }) s m ([.ref h0, .ref u1] : List Value).toArray below meth c H locs 0 0 (MQ below (QT (po_X5_split kp L f0 σ h0 u1) G cI cJ cZ cD cR cT A kp L) ([.ref h0, .ref u1] : List Value).toArray s 0 0 A) (F0 m 9 ls []) := by
    intro n
    induction n with
    | zero =>
      intro f17093 y17094 y17096 y17098 b17095 b17097 m17099 b17100 v17101 hm H locs ls hW hF hl
      have hz := i32_b y17094
      exfalso; omega
    | succ n ih =>
      intro f17093 y17094 y17096 y17098 b17095 b17097 m17099 b17100 v17101 hm H locs ls hW hF hl
      have ih9 := ih
      refine lv_iload_n hx hb dX5_split_9 rfl (lv_at hl 0 rfl) ?_
      refine lv_aload_n hx hb dX5_split_10 rfl (lv_at hl 3 rfl) ?_
      refine fg_RX5_80 E hW ru1 dX5_split_11 (fun y17103 m17104 b17105 => ?_)
      refine q_icmp_ge (tgt := 154) hx hb dX5_split_14 (by decide) rfl rfl (fun c17449 => ?_) (fun c17449 => ?_)
      · refine lv_aload_n hx hb dX5_split_154 rfl (lv_at hl 2 rfl) ?_
        refine fg_RX5_40 E hW rh0 dX5_split_155 (fun a17450 m17451 r17452 => ?_)
        refine lv_aload_n hx hb dX5_split_158 rfl (lv_at hl 2 rfl) ?_
        refine fg_RX5_69 E hW rh0 dX5_split_159 (fun y17453 m17454 b17455 => ?_)
        obtain rfl : y17098 = y17453 := (m17099).symm.trans m17454
        refine lv_aload_n hx hb dX5_split_162 rfl (lv_at hl 3 rfl) ?_
        refine fg_RX5_80 E hW ru1 dX5_split_163 (fun y17456 m17457 b17458 => ?_)
        obtain rfl : y17103 = y17456 := (m17104).symm.trans m17457
        refine gs_413 E hW r17452 ⟨by omega, by omega⟩ (by omega) dX5_split_166 (fun f17459 H locs e17460 n17461 g17462 hW => ?_)
        have hF := FM.tr hF g17462 rfl
        refine lv_aload_n hx hb dX5_split_167 rfl (lv_at hl 2 rfl) ?_
        refine fg_RX5_37 E hW rh0 dX5_split_168 (fun a17463 m17464 r17465 => ?_)
        refine lv_aload_n hx hb dX5_split_171 rfl (lv_at hl 2 rfl) ?_
        refine fg_RX5_69 E hW rh0 dX5_split_172 (fun y17466 m17467 b17468 => ?_)
        obtain rfl : y17098 = y17466 := (((fm_I g17462 rh0 rfl).trans m17454)).symm.trans m17467
        refine lv_sipush (v := 302) hx hb dX5_split_175 (by decide) ?_
        refine gs_412 E hW r17465 ⟨by omega, by omega⟩ dX5_split_178 (fun f17469 H locs e17470 n17471 g17472 hW => ?_)
        have m17473 : aI (f17469 a17450) (y17098 : Int32).toNatClampNeg = y17103 := ((congrArg (fun z => aI z (y17098 : Int32).toNatClampNeg) (fm_A g17472 r17452 (by decide) rfl)).trans (show aI (f17459 a17450) (y17098 : Int32).toNatClampNeg = y17103 from by rw [e17460]; exact up_s))
        have hF := FM.tr hF g17472 rfl
        exact e_V E hW rfl ⟨rfl, hF, (by rw [((fm_R g17472 rh0 rfl).trans m17464), ((fm_I g17472 rh0 rfl).trans m17467), e17470]; exact up_s)⟩ dX5_split_179
      · refine lv_aload_n hx hb dX5_split_17 rfl (lv_at hl 3 rfl) ?_
        refine fg_RX5_85 E hW ru1 dX5_split_18 (fun a17474 m17475 r17476 => ?_)
        refine lv_iload_n hx hb dX5_split_21 rfl (lv_at hl 0 rfl) ?_
        refine gl_581 E hW r17476 ⟨by omega, by omega⟩ dX5_split_22 (fun y17477 m17478 => ?_)
        refine lv_istore (lv' := [(4, .int y17477), (3, .int y17094), (2, .int y17096), (0, .ref h0), (1, .ref u1)]) hx hb dX5_split_23 hl (by decide) rfl (fun ls hl => ?_)
        refine lv_iload_n hx hb dX5_split_25 rfl (lv_at hl 1 rfl) ?_
        refine lv_iload_n hx hb dX5_split_26 rfl (lv_at hl 2 rfl) ?_
        have J17651 : ∀ (f17642 : Nat → va_E) (y17645 : Int32) (y17647 : Int32) (m17643 : oI (f17642 u1) 0 = y17103) (m17644 : oR (f17642 u1) 1 = a17474) (b17646 : (0 : Int) ≤ y17645.toInt ∧ y17645.toInt ≤ 400) (m17648 : oI (f17642 h0) 11 = y17647) (b17649 : (0 : Int) ≤ y17647.toInt ∧ y17647.toInt ≤ 400) (v17650 : y17647.toInt ≤ y17094.toInt + 1) (H : Heap) (locs : List Loc) (ls : Array Slot), WS G cI cJ cZ cD cR cT A kp L f17642 s H locs → FM kp L ms_X5_split f0 f17642 → lv_has ls 5 [(4, .int y17477), (3, .int y17094), (2, .int y17645), (0, .ref h0), (1, .ref u1)] → W p l e ({ frames := 6, cells := 0, slots := 0, locals := 153 }) s m ([.ref h0, .ref u1] : List Value).toArray below meth c H locs 0 0 (MQ below (QT (po_X5_split kp L f0 σ h0 u1) G cI cJ cZ cD cR cT A kp L) ([.ref h0, .ref u1] : List Value).toArray s 0 0 A) (F0 m 148 ls []) := by
          intro f17642 y17645 y17647 m17643 m17644 b17646 m17648 b17649 v17650 H locs ls hW hF hl
          clear b17097
          refine q_iinc hx hb dX5_split_148 hl (k := 1) rfl rfl rfl (by omega) (by decide) (fun i17652 ls h17653 hl => ?_)
          have hl : lv_has ls 5 [(3, .int i17652), (4, .int y17477), (2, .int y17645), (0, .ref h0), (1, .ref u1)] := hl
          refine lv_goto (tgt := 9) hx hb dX5_split_151 (by decide) ?_
          exact ih9 f17642 i17652 y17645 y17647 (by omega) (by omega) m17648 (by first | omega | decide | trivial) (by omega) (by omega) _ _ _ hW hF (lv_sub hl [0, 2, 3, 4] rfl)
        refine q_icmp_lt (tgt := 148) hx hb dX5_split_27 (by decide) rfl rfl (fun c17654 => ?_) (fun c17654 => ?_)
        · exact J17651 f17093 y17096 y17098 m17104 m17475 (by omega) m17099 (by first | omega | decide | trivial) (by omega) _ _ _ hW hF (lv_sub hl [0, 1, 2, 3, 4] rfl)
        · refine lv_iload hx hb dX5_split_30 (lv_at hl 0 rfl) ?_
          refine lv_bipush (v := 32) hx hb dX5_split_32 (by decide) ?_
          refine q_icmp_ne (Y := 32) (tgt := 40) hx hb dX5_split_34 (by decide) rfl rfl (fun c17655 => ?_) (fun c17655 => ?_)
          · refine lv_aload_n hx hb dX5_split_40 rfl (lv_at hl 4 rfl) ?_
            refine lv_iload_n hx hb dX5_split_41 rfl (lv_at hl 1 rfl) ?_
            refine t_callS (As := [.ref u1, .int y17094]) (rest := []) E hW (c_X5_endOfRun l G cI cJ cZ cD cR cT kp L f17093 hW.2.2.2 _ u1 y17094 ru1 (by omega)) wk_X5_endOfRun tw_871 rfl ⟨Nat.le_of_ble_eq_true rfl, Nat.le_of_ble_eq_true rfl⟩ ⟨rfl, rfl⟩ hl.1 rfl (Nat.le_of_ble_eq_true rfl) dX5_split_42 ⟨Nat.le_of_ble_eq_true rfl, Nat.le_of_ble_eq_true rfl⟩ (fun v17656 f17657 H locs q17658 hW => ?_)
            obtain ⟨⟨x17660, rfl, p17661⟩, g17659⟩ := q17658
            have hF := FM.tr hF g17659 rfl
            refine lv_istore_n (lv' := [(2, .int x17660), (4, .int y17477), (3, .int y17094), (0, .ref h0), (1, .ref u1)]) hx hb dX5_split_45 rfl hl (by decide) rfl (fun ls hl => ?_)
            refine lv_aload_n hx hb dX5_split_46 rfl (lv_at hl 3 rfl) ?_
            refine fg_RX5_40 E hW rh0 dX5_split_47 (fun a17662 m17663 r17664 => ?_)
            refine lv_aload_n hx hb dX5_split_50 rfl (lv_at hl 3 rfl) ?_
            refine fg_RX5_69 E hW rh0 dX5_split_51 (fun y17665 m17666 b17667 => ?_)
            obtain rfl : y17098 = y17665 := (((fm_I g17659 rh0 rfl).trans m17099)).symm.trans m17666
            refine lv_iload_n hx hb dX5_split_54 rfl (lv_at hl 2 rfl) ?_
            refine gs_413 E hW r17664 ⟨by omega, by omega⟩ (by omega) dX5_split_55 (fun f17668 H locs e17669 n17670 g17671 hW => ?_)
            have m17672 : aI (f17668 a17474) (y17094 : Int32).toNatClampNeg = y17477 := ((congrArg (fun z => aI z (y17094 : Int32).toNatClampNeg) (fm_A g17671 r17476 (by decide) rfl)).trans ((congrArg (fun z => aI z (y17094 : Int32).toNatClampNeg) (fm_A g17659 r17476 (by decide) rfl)).trans m17478))
            have hF := FM.tr hF g17671 rfl
            refine lv_aload_n hx hb dX5_split_56 rfl (lv_at hl 3 rfl) ?_
            refine fg_RX5_43 E hW rh0 dX5_split_57 (fun a17673 m17674 r17675 => ?_)
            refine lv_aload_n hx hb dX5_split_60 rfl (lv_at hl 3 rfl) ?_
            refine fg_RX5_69 E hW rh0 dX5_split_61 (fun y17676 m17677 b17678 => ?_)
            obtain rfl : y17098 = y17676 := (((fm_I g17671 rh0 rfl).trans m17666)).symm.trans m17677
            refine lv_iconst (v := 0) hx hb dX5_split_64 (by decide) ?_
            refine gs_414 E hW r17675 ⟨by omega, by omega⟩ dX5_split_65 (fun f17679 H locs e17680 n17681 g17682 hW => ?_)
            have m17683 : aI (f17679 a17662) (y17098 : Int32).toNatClampNeg = y17094 := ((congrArg (fun z => aI z (y17098 : Int32).toNatClampNeg) (fm_A g17682 r17664 (by decide) rfl)).trans (show aI (f17668 a17662) (y17098 : Int32).toNatClampNeg = y17094 from by rw [e17669]; exact up_s))
            have hF := FM.tr hF g17682 rfl
            refine lv_aload_n hx hb dX5_split_66 rfl (lv_at hl 3 rfl) ?_
            refine fg_RX5_37 E hW rh0 dX5_split_67 (fun a17684 m17685 r17686 => ?_)
            refine lv_aload_n hx hb dX5_split_70 rfl (lv_at hl 3 rfl) ?_
            refine fg_RX5_69 E hW rh0 dX5_split_71 (fun y17687 m17688 b17689 => ?_)
            obtain rfl : y17098 = y17687 := (((fm_I g17682 rh0 rfl).trans m17677)).symm.trans m17688
            refine lv_iload hx hb dX5_split_74 (lv_at hl 1 rfl) ?_
            refine gs_412 E hW r17686 ⟨by omega, by omega⟩ dX5_split_76 (fun f17690 H locs e17691 n17692 g17693 hW => ?_)
            have m17694 : aI (f17690 a17474) (y17094 : Int32).toNatClampNeg = y17477 := ((congrArg (fun z => aI z (y17094 : Int32).toNatClampNeg) (fm_A g17693 r17476 (by decide) rfl)).trans ((congrArg (fun z => aI z (y17094 : Int32).toNatClampNeg) (fm_A g17682 r17476 (by decide) rfl)).trans m17672))
            have m17695 : aI (f17690 a17673) (y17098 : Int32).toNatClampNeg = 0 := ((congrArg (fun z => aI z (y17098 : Int32).toNatClampNeg) (fm_A g17693 r17675 (by decide) rfl)).trans (show aI (f17679 a17673) (y17098 : Int32).toNatClampNeg = 0 from by rw [e17680]; exact up_s))
            have hF := FM.tr hF g17693 rfl
            refine lv_iload hx hb dX5_split_77 (lv_at hl 1 rfl) ?_
            refine t_callS (As := [.int y17477]) (rest := []) E hW (c_X5_isDigit l G cI cJ cZ cD cR cT kp L f17690 hW.2.2.2 _ y17477) wk_X5_isDigit tw_874 rfl ⟨Nat.le_of_ble_eq_true rfl, Nat.le_of_ble_eq_true rfl⟩ ⟨rfl, rfl⟩ hl.1 rfl (Nat.le_of_ble_eq_true rfl) dX5_split_79 ⟨Nat.le_of_ble_eq_true rfl, Nat.le_of_ble_eq_true rfl⟩ (fun v17696 f17697 H locs q17698 hW => ?_)
            obtain ⟨⟨x17700, rfl, p17701⟩, g17699⟩ := q17698
            have m17702 : aI (f17697 a17662) (y17098 : Int32).toNatClampNeg = y17094 := ((congrArg (fun z => aI z (y17098 : Int32).toNatClampNeg) (fm_A g17699 r17664 (by decide) rfl)).trans ((congrArg (fun z => aI z (y17098 : Int32).toNatClampNeg) (fm_A g17693 r17664 (by decide) rfl)).trans m17683))
            have m17703 : aI (f17697 a17684) (y17098 : Int32).toNatClampNeg = y17477 := ((congrArg (fun z => aI z (y17098 : Int32).toNatClampNeg) (fm_A g17699 r17686 (by decide) rfl)).trans (show aI (f17690 a17684) (y17098 : Int32).toNatClampNeg = y17477 from by rw [e17691]; exact up_s))
            have hF := FM.tr hF g17699 rfl
            have J17761 : ∀ (f17754 : Nat → va_E) (m17755 : oI (f17754 h0) 11 = y17098) (m17756 : oR (f17754 h0) 12 = a17684) (m17757 : oR (f17754 h0) 13 = a17662) (m17758 : oR (f17754 h0) 14 = a17673) (m17759 : oI (f17754 u1) 0 = y17103) (m17760 : oR (f17754 u1) 1 = a17474) (H : Heap) (locs : List Loc) (ls : Array Slot), WS G cI cJ cZ cD cR cT A kp L f17754 s H locs → FM kp L ms_X5_split f0 f17754 → lv_has ls 5 [(2, .int x17660), (4, .int y17477), (3, .int y17094), (0, .ref h0), (1, .ref u1)] → W p l e ({ frames := 6, cells := 0, slots := 0, locals := 153 }) s m ([.ref h0, .ref u1] : List Value).toArray below meth c H locs 0 0 (MQ below (QT (po_X5_split kp L f0 σ h0 u1) G cI cJ cZ cD cR cT A kp L) ([.ref h0, .ref u1] : List Value).toArray s 0 0 A) (F0 m 138 ls []) := by
              intro f17754 m17755 m17756 m17757 m17758 m17759 m17760 H locs ls hW hF hl
              refine lv_aload_n hx hb dX5_split_138 rfl (lv_at hl 3 rfl) ?_
              refine lv_dup hx hb dX5_split_139 rfl ?_
              refine fg_RX5_69 E hW rh0 dX5_split_140 (fun y17762 m17763 b17764 => ?_)
              obtain rfl : y17098 = y17762 := (m17755).symm.trans m17763
              refine lv_iconst (v := 1) hx hb dX5_split_143 (by decide) ?_
              refine q_iadd (Y := 1) hx hb dX5_split_144 rfl rfl (by omega) (fun x17765 h17766 => ?_)
              refine fp_RX5_69 E hW rh0 (by omega) dX5_split_145 (fun f17767 H locs e17768 n17769 g17770 hW => ?_)
              have hF := FM.tr hF g17770 rfl
              exact J17651 f17767 x17660 x17765 ((fm_I g17770 ru1 rfl).trans m17759) ((fm_R g17770 ru1 rfl).trans m17760) (by omega) e17768 (by first | omega | decide | trivial) (by omega) _ _ _ hW hF (lv_sub hl [1, 2, 0, 3, 4] rfl)
            refine q_if_eq (tgt := 115) hx hb dX5_split_82 (by decide) rfl (fun c17771 => ?_) (fun c17771 => ?_)
            · clear p17701
              refine lv_iload hx hb dX5_split_115 (lv_at hl 1 rfl) ?_
              refine t_callS (As := [.int y17477]) (rest := []) E hW (c_X5_isLetter l G cI cJ cZ cD cR cT kp L f17697 hW.2.2.2 _ y17477) wk_X5_isLetter tw_877 rfl ⟨Nat.le_of_ble_eq_true rfl, Nat.le_of_ble_eq_true rfl⟩ ⟨rfl, rfl⟩ hl.1 rfl (Nat.le_of_ble_eq_true rfl) dX5_split_117 ⟨Nat.le_of_ble_eq_true rfl, Nat.le_of_ble_eq_true rfl⟩ (fun v17772 f17773 H locs q17774 hW => ?_)
              obtain ⟨⟨x17776, rfl, p17777⟩, g17775⟩ := q17774
              have m17778 : oI (f17773 u1) 0 = y17103 := ((fm_I g17775 ru1 rfl).trans ((fm_I g17699 ru1 rfl).trans ((fm_I g17693 ru1 rfl).trans ((fm_I g17682 ru1 rfl).trans ((fm_I g17671 ru1 rfl).trans ((fm_I g17659 ru1 rfl).trans m17104))))))
              have m17779 : oR (f17773 u1) 1 = a17474 := ((fm_R g17775 ru1 rfl).trans ((fm_R g17699 ru1 rfl).trans ((fm_R g17693 ru1 rfl).trans ((fm_R g17682 ru1 rfl).trans ((fm_R g17671 ru1 rfl).trans ((fm_R g17659 ru1 rfl).trans m17475))))))
              have m17780 : aI (f17773 a17474) (y17094 : Int32).toNatClampNeg = y17477 := ((congrArg (fun z => aI z (y17094 : Int32).toNatClampNeg) (fm_A g17775 r17476 (by decide) rfl)).trans ((congrArg (fun z => aI z (y17094 : Int32).toNatClampNeg) (fm_A g17699 r17476 (by decide) rfl)).trans m17694))
              have m17781 : aI (f17773 a17673) (y17098 : Int32).toNatClampNeg = 0 := ((congrArg (fun z => aI z (y17098 : Int32).toNatClampNeg) (fm_A g17775 r17675 (by decide) rfl)).trans ((congrArg (fun z => aI z (y17098 : Int32).toNatClampNeg) (fm_A g17699 r17675 (by decide) rfl)).trans m17695))
              have hF := FM.tr hF g17775 rfl
              refine q_if_eq (tgt := 138) hx hb dX5_split_120 (by decide) rfl (fun c17782 => ?_) (fun c17782 => ?_)
              · clear p17777
                exact J17761 f17773 ((fm_I g17775 rh0 rfl).trans ((fm_I g17699 rh0 rfl).trans ((fm_I g17693 rh0 rfl).trans m17688))) ((fm_R g17775 rh0 rfl).trans ((fm_R g17699 rh0 rfl).trans ((fm_R g17693 rh0 rfl).trans m17685))) ((fm_R g17775 rh0 rfl).trans ((fm_R g17699 rh0 rfl).trans ((fm_R g17693 rh0 rfl).trans ((fm_R g17682 rh0 rfl).trans ((fm_R g17671 rh0 rfl).trans m17663))))) ((fm_R g17775 rh0 rfl).trans ((fm_R g17699 rh0 rfl).trans ((fm_R g17693 rh0 rfl).trans ((fm_R g17682 rh0 rfl).trans m17674)))) m17778 m17779 _ _ _ hW hF (lv_sub hl [0, 1, 2, 3, 4] rfl)
              · have q17783 : 97 ≤ y17477.toInt ∧ y17477.toInt ≤ 122 := by omega
                clear p17777
                refine lv_aload_n hx hb dX5_split_123 rfl (lv_at hl 3 rfl) ?_
                refine fg_RX5_37 E hW rh0 dX5_split_124 (fun a17784 m17785 r17786 => ?_)
                obtain rfl : a17684 = a17784 := (((fm_R g17775 rh0 rfl).trans ((fm_R g17699 rh0 rfl).trans ((fm_R g17693 rh0 rfl).trans m17685)))).symm.trans m17785
                refine lv_aload_n hx hb dX5_split_127 rfl (lv_at hl 3 rfl) ?_
                refine fg_RX5_69 E hW rh0 dX5_split_128 (fun y17787 m17788 b17789 => ?_)
                obtain rfl : y17098 = y17787 := (((fm_I g17775 rh0 rfl).trans ((fm_I g17699 rh0 rfl).trans ((fm_I g17693 rh0 rfl).trans m17688)))).symm.trans m17788
                refine lv_aload_n hx hb dX5_split_131 rfl (lv_at hl 4 rfl) ?_
                refine lv_iload_n hx hb dX5_split_132 rfl (lv_at hl 2 rfl) ?_
                refine lv_iload_n hx hb dX5_split_133 rfl (lv_at hl 0 rfl) ?_
                refine t_callSS (As := [.ref u1, .int y17094, .int x17660]) (rest := [.int y17098, .ref a17684]) E hSX hW (c_X5_wordIn l G cI cJ cZ cD cR cT kp L f17773 hW.2.2.2 _ σ u1 y17094 x17660 ru1 (by omega) (by omega)) wk_X5_wordIn tw_885 rfl ⟨Nat.le_of_ble_eq_true rfl, Nat.le_of_ble_eq_true rfl⟩ ⟨rfl, rfl⟩ hl.1 rfl (Nat.le_of_ble_eq_true rfl) dX5_split_134 ⟨Nat.le_of_ble_eq_true rfl, Nat.le_of_ble_eq_true rfl⟩ (fun v17790 f17791 H locs q17792 hW => ?_)
                obtain ⟨⟨x17794, rfl, p17795⟩, g17793⟩ := q17792
                clear p17795
                have m17796 : oR (f17791 h0) 13 = a17662 := ((fm_R g17793 rh0 rfl).trans ((fm_R g17775 rh0 rfl).trans ((fm_R g17699 rh0 rfl).trans ((fm_R g17693 rh0 rfl).trans ((fm_R g17682 rh0 rfl).trans ((fm_R g17671 rh0 rfl).trans m17663))))))
                have m17797 : aI (f17791 a17662) (y17098 : Int32).toNatClampNeg = y17094 := ((congrArg (fun z => aI z (y17098 : Int32).toNatClampNeg) (fm_A g17793 r17664 (by decide) rfl)).trans ((congrArg (fun z => aI z (y17098 : Int32).toNatClampNeg) (fm_A g17775 r17664 (by decide) rfl)).trans m17702))
                have m17798 : aI (f17791 a17684) (y17098 : Int32).toNatClampNeg = y17477 := ((congrArg (fun z => aI z (y17098 : Int32).toNatClampNeg) (fm_A g17793 r17686 (by decide) rfl)).trans ((congrArg (fun z => aI z (y17098 : Int32).toNatClampNeg) (fm_A g17775 r17686 (by decide) rfl)).trans m17703))
                have hF := FM.tr hF g17793 rfl
                refine gs_412 E hW r17686 ⟨by omega, by omega⟩ dX5_split_137 (fun f17799 H locs e17800 n17801 g17802 hW => ?_)
                have m17803 : oR (f17799 h0) 14 = a17673 := ((fm_R g17802 rh0 rfl).trans ((fm_R g17793 rh0 rfl).trans ((fm_R g17775 rh0 rfl).trans ((fm_R g17699 rh0 rfl).trans ((fm_R g17693 rh0 rfl).trans ((fm_R g17682 rh0 rfl).trans m17674))))))
                have m17804 : aI (f17799 a17474) (y17094 : Int32).toNatClampNeg = y17477 := ((congrArg (fun z => aI z (y17094 : Int32).toNatClampNeg) (fm_A g17802 r17476 (by decide) rfl)).trans ((congrArg (fun z => aI z (y17094 : Int32).toNatClampNeg) (fm_A g17793 r17476 (by decide) rfl)).trans m17780))
                have m17805 : aI (f17799 a17673) (y17098 : Int32).toNatClampNeg = 0 := ((congrArg (fun z => aI z (y17098 : Int32).toNatClampNeg) (fm_A g17802 r17675 (by decide) rfl)).trans ((congrArg (fun z => aI z (y17098 : Int32).toNatClampNeg) (fm_A g17793 r17675 (by decide) rfl)).trans m17781))
                have hF := FM.tr hF g17802 rfl
                exact J17761 f17799 ((fm_I g17802 rh0 rfl).trans ((fm_I g17793 rh0 rfl).trans m17788)) ((fm_R g17802 rh0 rfl).trans ((fm_R g17793 rh0 rfl).trans m17785)) ((fm_R g17802 rh0 rfl).trans m17796) m17803 ((fm_I g17802 ru1 rfl).trans ((fm_I g17793 ru1 rfl).trans m17778)) ((fm_R g17802 ru1 rfl).trans ((fm_R g17793 ru1 rfl).trans m17779)) _ _ _ hW hF (lv_sub hl [0, 1, 2, 3, 4] rfl)
            · have q17806 : 48 ≤ y17477.toInt ∧ y17477.toInt ≤ 57 := by omega
              clear p17701
              refine lv_aload_n hx hb dX5_split_85 rfl (lv_at hl 3 rfl) ?_
              refine fg_RX5_37 E hW rh0 dX5_split_86 (fun a17807 m17808 r17809 => ?_)
              obtain rfl : a17684 = a17807 := (((fm_R g17699 rh0 rfl).trans ((fm_R g17693 rh0 rfl).trans m17685))).symm.trans m17808
              refine lv_aload_n hx hb dX5_split_89 rfl (lv_at hl 3 rfl) ?_
              refine fg_RX5_69 E hW rh0 dX5_split_90 (fun y17810 m17811 b17812 => ?_)
              obtain rfl : y17098 = y17810 := (((fm_I g17699 rh0 rfl).trans ((fm_I g17693 rh0 rfl).trans m17688))).symm.trans m17811
              refine lv_sipush (v := 301) hx hb dX5_split_93 (by decide) ?_
              refine gs_412 E hW r17686 ⟨by omega, by omega⟩ dX5_split_96 (fun f17813 H locs e17814 n17815 g17816 hW => ?_)
              have m17817 : oI (f17813 u1) 0 = y17103 := ((fm_I g17816 ru1 rfl).trans ((fm_I g17699 ru1 rfl).trans ((fm_I g17693 ru1 rfl).trans ((fm_I g17682 ru1 rfl).trans ((fm_I g17671 ru1 rfl).trans ((fm_I g17659 ru1 rfl).trans m17104))))))
              have m17818 : oR (f17813 u1) 1 = a17474 := ((fm_R g17816 ru1 rfl).trans ((fm_R g17699 ru1 rfl).trans ((fm_R g17693 ru1 rfl).trans ((fm_R g17682 ru1 rfl).trans ((fm_R g17671 ru1 rfl).trans ((fm_R g17659 ru1 rfl).trans m17475))))))
              have m17819 : aI (f17813 a17474) (y17094 : Int32).toNatClampNeg = y17477 := ((congrArg (fun z => aI z (y17094 : Int32).toNatClampNeg) (fm_A g17816 r17476 (by decide) rfl)).trans ((congrArg (fun z => aI z (y17094 : Int32).toNatClampNeg) (fm_A g17699 r17476 (by decide) rfl)).trans m17694))
              have m17820 : aI (f17813 a17673) (y17098 : Int32).toNatClampNeg = 0 := ((congrArg (fun z => aI z (y17098 : Int32).toNatClampNeg) (fm_A g17816 r17675 (by decide) rfl)).trans ((congrArg (fun z => aI z (y17098 : Int32).toNatClampNeg) (fm_A g17699 r17675 (by decide) rfl)).trans m17695))
              have hF := FM.tr hF g17816 rfl
              refine lv_aload_n hx hb dX5_split_97 rfl (lv_at hl 3 rfl) ?_
              refine fg_RX5_43 E hW rh0 dX5_split_98 (fun a17821 m17822 r17823 => ?_)
              obtain rfl : a17673 = a17821 := (((fm_R g17816 rh0 rfl).trans ((fm_R g17699 rh0 rfl).trans ((fm_R g17693 rh0 rfl).trans ((fm_R g17682 rh0 rfl).trans m17674))))).symm.trans m17822
              refine lv_aload_n hx hb dX5_split_101 rfl (lv_at hl 3 rfl) ?_
              refine fg_RX5_69 E hW rh0 dX5_split_102 (fun y17824 m17825 b17826 => ?_)
              obtain rfl : y17098 = y17824 := (((fm_I g17816 rh0 rfl).trans m17811)).symm.trans m17825
              refine lv_aload_n hx hb dX5_split_105 rfl (lv_at hl 4 rfl) ?_
              refine lv_iload_n hx hb dX5_split_106 rfl (lv_at hl 2 rfl) ?_
              refine lv_iload_n hx hb dX5_split_107 rfl (lv_at hl 0 rfl) ?_
              refine t_callS (As := [.ref u1, .int y17094, .int x17660]) (rest := [.int y17098, .ref a17673]) E hW (c_X5_numberIn l G cI cJ cZ cD cR cT kp L f17813 hW.2.2.2 _ u1 y17094 x17660 ru1 (by omega) (by omega)) wk_X5_numberIn tw_880 rfl ⟨Nat.le_of_ble_eq_true rfl, Nat.le_of_ble_eq_true rfl⟩ ⟨rfl, rfl⟩ hl.1 rfl (Nat.le_of_ble_eq_true rfl) dX5_split_108 ⟨Nat.le_of_ble_eq_true rfl, Nat.le_of_ble_eq_true rfl⟩ (fun v17827 f17828 H locs q17829 hW => ?_)
              obtain ⟨⟨x17831, rfl, p17832⟩, g17830⟩ := q17829
              have m17833 : oR (f17828 h0) 13 = a17662 := ((fm_R g17830 rh0 rfl).trans ((fm_R g17816 rh0 rfl).trans ((fm_R g17699 rh0 rfl).trans ((fm_R g17693 rh0 rfl).trans ((fm_R g17682 rh0 rfl).trans ((fm_R g17671 rh0 rfl).trans m17663))))))
              have m17834 : aI (f17828 a17662) (y17098 : Int32).toNatClampNeg = y17094 := ((congrArg (fun z => aI z (y17098 : Int32).toNatClampNeg) (fm_A g17830 r17664 (by decide) rfl)).trans ((congrArg (fun z => aI z (y17098 : Int32).toNatClampNeg) (fm_A g17816 r17664 (by decide) rfl)).trans m17702))
              have m17835 : aI (f17828 a17684) (y17098 : Int32).toNatClampNeg = 301 := ((congrArg (fun z => aI z (y17098 : Int32).toNatClampNeg) (fm_A g17830 r17686 (by decide) rfl)).trans (show aI (f17813 a17684) (y17098 : Int32).toNatClampNeg = 301 from by rw [e17814]; exact up_s))
              have hF := FM.tr hF g17830 rfl
              refine gs_414 E hW r17675 ⟨by omega, by omega⟩ dX5_split_111 (fun f17836 H locs e17837 n17838 g17839 hW => ?_)
              have m17840 : aI (f17836 a17474) (y17094 : Int32).toNatClampNeg = y17477 := ((congrArg (fun z => aI z (y17094 : Int32).toNatClampNeg) (fm_A g17839 r17476 (by decide) rfl)).trans ((congrArg (fun z => aI z (y17094 : Int32).toNatClampNeg) (fm_A g17830 r17476 (by decide) rfl)).trans m17819))
              have hF := FM.tr hF g17839 rfl
              refine lv_goto (tgt := 138) hx hb dX5_split_112 (by decide) ?_
              exact J17761 f17836 ((fm_I g17839 rh0 rfl).trans ((fm_I g17830 rh0 rfl).trans m17825)) ((fm_R g17839 rh0 rfl).trans ((fm_R g17830 rh0 rfl).trans ((fm_R g17816 rh0 rfl).trans m17808))) ((fm_R g17839 rh0 rfl).trans m17833) ((fm_R g17839 rh0 rfl).trans ((fm_R g17830 rh0 rfl).trans m17822)) ((fm_I g17839 ru1 rfl).trans ((fm_I g17830 ru1 rfl).trans m17817)) ((fm_R g17839 ru1 rfl).trans ((fm_R g17830 ru1 rfl).trans m17818)) _ _ _ hW hF (lv_sub hl [0, 1, 2, 3, 4] rfl)
          · refine lv_goto (tgt := 148) hx hb dX5_split_37 (by decide) ?_
            exact J17651 f17093 y17096 y17098 m17104 m17475 (by omega) m17099 (by first | omega | decide | trivial) (by omega) _ _ _ hW hF (lv_sub hl [0, 1, 2, 3, 4] rfl)
  have hk17841 : (0 : Int32).toInt = 0 := rfl
  have hk17842 : (0 : Int32).toInt = 0 := rfl
  have hk17843 : (0 : Int32).toInt = 0 := rfl
  exact L17102 401 f1 0 0 0 (by decide) (by decide) e2 (by first | omega | decide | trivial) (by omega) (by omega) _ _ _ hW hF (lv_sub hl [0, 1, 2, 3] rfl)
