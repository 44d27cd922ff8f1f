theorem dX11_within_0 : decode cX11_within 0 = .ok (.iload_n 0, 1) := by decide +kernel
theorem dX11_within_1 : decode cX11_within 1 = .ok (.iload_n 1, 1) := by decide +kernel
theorem dX11_within_2 : decode cX11_within 2 = .ok (.if_icmp .lt 12, 3) := by decide +kernel
theorem dX11_within_14 : decode cX11_within 14 = .ok (.iconst 0, 1) := by decide +kernel
theorem dX11_within_15 : decode cX11_within 15 = .ok (.ireturn, 1) := by decide +kernel
theorem dX11_within_5 : decode cX11_within 5 = .ok (.iload_n 0, 1) := by decide +kernel
theorem dX11_within_6 : decode cX11_within 6 = .ok (.iload_n 2, 1) := by decide +kernel
theorem dX11_within_7 : decode cX11_within 7 = .ok (.if_icmp .gt 7, 3) := by decide +kernel
theorem dX11_within_10 : decode cX11_within 10 = .ok (.iconst 1, 1) := by decide +kernel
theorem dX11_within_11 : decode cX11_within 11 = .ok (.goto 4, 3) := by decide +kernel
theorem dX11_isWeek_0 : decode cX11_isWeek 0 = .ok (.iload_n 0, 1) := by decide +kernel
theorem dX11_isWeek_1 : decode cX11_isWeek 1 = .ok (.ifCond .lt 14, 3) := by decide +kernel
theorem dX11_isWeek_15 : decode cX11_isWeek 15 = .ok (.iconst 0, 1) := by decide +kernel
theorem dX11_isWeek_16 : decode cX11_isWeek 16 = .ok (.ireturn, 1) := by decide +kernel
theorem dX11_isWeek_4 : decode cX11_isWeek 4 = .ok (.iload_n 0, 1) := by decide +kernel
theorem dX11_isWeek_5 : decode cX11_isWeek 5 = .ok (.sipush 399, 3) := by decide +kernel
theorem dX11_isWeek_8 : decode cX11_isWeek 8 = .ok (.if_icmp .gt 7, 3) := by decide +kernel
theorem dX11_isWeek_11 : decode cX11_isWeek 11 = .ok (.iconst 1, 1) := by decide +kernel
theorem dX11_isWeek_12 : decode cX11_isWeek 12 = .ok (.goto 4, 3) := by decide +kernel
theorem dX11_refuse_0 : decode cX11_refuse 0 = .ok (.aload_n 0, 1) := by decide +kernel
theorem dX11_refuse_1 : decode cX11_refuse 1 = .ok (.iload_n 1, 1) := by decide +kernel
theorem dX11_refuse_2 : decode cX11_refuse 2 = .ok (.putfield 356, 3) := by decide +kernel
theorem dX11_refuse_5 : decode cX11_refuse 5 = .ok (.iload_n 1, 1) := by decide +kernel
theorem dX11_refuse_6 : decode cX11_refuse 6 = .ok (.ireturn, 1) := by decide +kernel
theorem dX11_accept_0 : decode cX11_accept 0 = .ok (.aload_n 0, 1) := by decide +kernel
theorem dX11_accept_1 : decode cX11_accept 1 = .ok (.iconst 0, 1) := by decide +kernel
theorem dX11_accept_2 : decode cX11_accept 2 = .ok (.putfield 356, 3) := by decide +kernel
theorem dX11_accept_5 : decode cX11_accept 5 = .ok (.iload_n 1, 1) := by decide +kernel
theorem dX11_accept_6 : decode cX11_accept 6 = .ok (.ireturn, 1) := by decide +kernel
theorem dX4_has_0 : decode cX4_has 0 = .ok (.iload_n 1, 1) := by decide +kernel
theorem dX4_has_1 : decode cX4_has 1 = .ok (.ifCond .lt 15, 3) := by decide +kernel
theorem dX4_has_16 : decode cX4_has 16 = .ok (.iconst 0, 1) := by decide +kernel
theorem dX4_has_17 : decode cX4_has 17 = .ok (.ireturn, 1) := by decide +kernel
theorem dX4_has_4 : decode cX4_has 4 = .ok (.iload_n 1, 1) := by decide +kernel
theorem dX4_has_5 : decode cX4_has 5 = .ok (.aload_n 0, 1) := by decide +kernel
theorem dX4_has_6 : decode cX4_has 6 = .ok (.getfield 39, 3) := by decide +kernel
theorem dX4_has_9 : decode cX4_has 9 = .ok (.if_icmp .ge 7, 3) := by decide +kernel
theorem dX1_has_0 : decode cX1_has 0 = .ok (.iload_n 1, 1) := by decide +kernel
theorem dX1_has_1 : decode cX1_has 1 = .ok (.ifCond .lt 15, 3) := by decide +kernel
theorem dX1_has_16 : decode cX1_has 16 = .ok (.iconst 0, 1) := by decide +kernel
theorem dX1_has_17 : decode cX1_has 17 = .ok (.ireturn, 1) := by decide +kernel
theorem dX1_has_4 : decode cX1_has 4 = .ok (.iload_n 1, 1) := by decide +kernel
theorem dX1_has_5 : decode cX1_has 5 = .ok (.aload_n 0, 1) := by decide +kernel
theorem dX1_has_6 : decode cX1_has 6 = .ok (.getfield 46, 3) := by decide +kernel
theorem dX1_has_9 : decode cX1_has 9 = .ok (.if_icmp .ge 7, 3) := by decide +kernel
theorem dX1_hasEstate_0 : decode cX1_hasEstate 0 = .ok (.iload_n 1, 1) := by decide +kernel
theorem dX1_hasEstate_1 : decode cX1_hasEstate 1 = .ok (.ifCond .lt 15, 3) := by decide +kernel
theorem dX1_hasEstate_16 : decode cX1_hasEstate 16 = .ok (.iconst 0, 1) := by decide +kernel
theorem dX1_hasEstate_17 : decode cX1_hasEstate 17 = .ok (.ireturn, 1) := by decide +kernel
theorem dX1_hasEstate_4 : decode cX1_hasEstate 4 = .ok (.iload_n 1, 1) := by decide +kernel
theorem dX1_hasEstate_5 : decode cX1_hasEstate 5 = .ok (.aload_n 0, 1) := by decide +kernel
theorem dX1_hasEstate_6 : decode cX1_hasEstate 6 = .ok (.getfield 49, 3) := by decide +kernel
theorem dX1_hasEstate_9 : decode cX1_hasEstate 9 = .ok (.if_icmp .ge 7, 3) := by decide +kernel
theorem dX2_has_0 : decode cX2_has 0 = .ok (.iload_n 1, 1) := by decide +kernel
theorem dX2_has_1 : decode cX2_has 1 = .ok (.ifCond .lt 11, 3) := by decide +kernel
theorem dX2_has_12 : decode cX2_has 12 = .ok (.iconst 0, 1) := by decide +kernel
theorem dX2_has_13 : decode cX2_has 13 = .ok (.ireturn, 1) := by decide +kernel
theorem dX2_has_4 : decode cX2_has 4 = .ok (.iload_n 1, 1) := by decide +kernel
theorem dX2_has_5 : decode cX2_has 5 = .ok (.aload_n 0, 1) := by decide +kernel
theorem dX2_has_6 : decode cX2_has 6 = .ok (.getfield 24, 3) := by decide +kernel
theorem dX2_has_9 : decode cX2_has 9 = .ok (.if_icmp .lt 5, 3) := by decide +kernel
theorem dX11_canGo_0 : decode cX11_canGo 0 = .ok (.iload_n 1, 1) := by decide +kernel
theorem dX11_canGo_1 : decode cX11_canGo 1 = .ok (.iconst 1, 1) := by decide +kernel
theorem dX11_canGo_2 : decode cX11_canGo 2 = .ok (.bipush 104, 2) := by decide +kernel
theorem dX11_canGo_4 : decode cX11_canGo 4 = .ok (.invokestatic 54, 3) := by decide +kernel
theorem dX11_canGo_7 : decode cX11_canGo 7 = .ok (.ifCond .eq 22, 3) := by decide +kernel
theorem dX11_canGo_10 : decode cX11_canGo 10 = .ok (.aload_n 0, 1) := by decide +kernel
theorem dX11_canGo_11 : decode cX11_canGo 11 = .ok (.getfield 12, 3) := by decide +kernel
theorem dX11_canGo_14 : decode cX11_canGo 14 = .ok (.getfield 255, 3) := by decide +kernel
theorem dX11_canGo_17 : decode cX11_canGo 17 = .ok (.iload_n 1, 1) := by decide +kernel
theorem dX11_canGo_18 : decode cX11_canGo 18 = .ok (.iadd, 1) := by decide +kernel
theorem dX11_canGo_19 : decode cX11_canGo 19 = .ok (.sipush 399, 3) := by decide +kernel
theorem dX11_canGo_22 : decode cX11_canGo 22 = .ok (.if_icmp .gt 7, 3) := by decide +kernel
theorem dX11_canGo_25 : decode cX11_canGo 25 = .ok (.iconst 1, 1) := by decide +kernel
theorem dX11_canGo_26 : decode cX11_canGo 26 = .ok (.goto 4, 3) := by decide +kernel
theorem dX11_canGo_30 : decode cX11_canGo 30 = .ok (.ireturn, 1) := by decide +kernel
theorem dX11_canGo_29 : decode cX11_canGo 29 = .ok (.iconst 0, 1) := by decide +kernel
theorem dX4_add_0 : decode cX4_add 0 = .ok (.aload_n 0, 1) := by decide +kernel
theorem dX4_add_1 : decode cX4_add 1 = .ok (.getfield 39, 3) := by decide +kernel
theorem dX4_add_4 : decode cX4_add 4 = .ok (.bipush 40, 2) := by decide +kernel
theorem dX4_add_6 : decode cX4_add 6 = .ok (.if_icmp .lt 5, 3) := by decide +kernel
theorem dX4_add_11 : decode cX4_add 11 = .ok (.aload_n 0, 1) := by decide +kernel
theorem dX4_add_12 : decode cX4_add 12 = .ok (.getfield 39, 3) := by decide +kernel
theorem dX4_add_15 : decode cX4_add 15 = .ok (.istore 4, 2) := by decide +kernel
theorem dX4_add_17 : decode cX4_add 17 = .ok (.aload_n 0, 1) := by decide +kernel
theorem dX4_add_18 : decode cX4_add 18 = .ok (.getfield 9, 3) := by decide +kernel
theorem dX4_add_21 : decode cX4_add 21 = .ok (.iload 4, 2) := by decide +kernel
theorem dX4_add_23 : decode cX4_add 23 = .ok (.iload_n 1, 1) := by decide +kernel
theorem dX4_add_24 : decode cX4_add 24 = .ok (.iastore, 1) := by decide +kernel
theorem dX4_add_25 : decode cX4_add 25 = .ok (.aload_n 0, 1) := by decide +kernel
theorem dX4_add_26 : decode cX4_add 26 = .ok (.getfield 15, 3) := by decide +kernel
theorem dX4_add_29 : decode cX4_add 29 = .ok (.iload 4, 2) := by decide +kernel
theorem dX4_add_31 : decode cX4_add 31 = .ok (.iload_n 2, 1) := by decide +kernel
theorem dX4_add_32 : decode cX4_add 32 = .ok (.iastore, 1) := by decide +kernel
theorem dX4_add_33 : decode cX4_add 33 = .ok (.aload_n 0, 1) := by decide +kernel
theorem dX4_add_34 : decode cX4_add 34 = .ok (.getfield 18, 3) := by decide +kernel
theorem dX4_add_37 : decode cX4_add 37 = .ok (.iload 4, 2) := by decide +kernel
theorem dX4_add_39 : decode cX4_add 39 = .ok (.iload_n 3, 1) := by decide +kernel
theorem dX4_add_40 : decode cX4_add 40 = .ok (.iastore, 1) := by decide +kernel
theorem dX4_add_41 : decode cX4_add 41 = .ok (.aload_n 0, 1) := by decide +kernel
theorem dX4_add_42 : decode cX4_add 42 = .ok (.getfield 21, 3) := by decide +kernel
theorem dX4_add_45 : decode cX4_add 45 = .ok (.iload 4, 2) := by decide +kernel
theorem dX4_add_47 : decode cX4_add 47 = .ok (.iconst (-1), 1) := by decide +kernel
theorem dX4_add_48 : decode cX4_add 48 = .ok (.iastore, 1) := by decide +kernel
theorem dX4_add_49 : decode cX4_add 49 = .ok (.aload_n 0, 1) := by decide +kernel
theorem dX4_add_50 : decode cX4_add 50 = .ok (.getfield 24, 3) := by decide +kernel
theorem dX4_add_53 : decode cX4_add 53 = .ok (.iload 4, 2) := by decide +kernel
theorem dX4_add_55 : decode cX4_add 55 = .ok (.iconst 0, 1) := by decide +kernel
theorem dX4_add_56 : decode cX4_add 56 = .ok (.iastore, 1) := by decide +kernel
theorem dX4_add_57 : decode cX4_add 57 = .ok (.aload_n 0, 1) := by decide +kernel
theorem dX4_add_58 : decode cX4_add 58 = .ok (.getfield 27, 3) := by decide +kernel
theorem dX4_add_61 : decode cX4_add 61 = .ok (.iload 4, 2) := by decide +kernel
theorem dX4_add_63 : decode cX4_add 63 = .ok (.iconst 0, 1) := by decide +kernel
theorem dX4_add_64 : decode cX4_add 64 = .ok (.iastore, 1) := by decide +kernel
theorem dX4_add_65 : decode cX4_add 65 = .ok (.aload_n 0, 1) := by decide +kernel
theorem dX4_add_66 : decode cX4_add 66 = .ok (.getfield 30, 3) := by decide +kernel
theorem dX4_add_69 : decode cX4_add 69 = .ok (.iload 4, 2) := by decide +kernel
theorem dX4_add_71 : decode cX4_add 71 = .ok (.iconst (-1), 1) := by decide +kernel
theorem dX4_add_72 : decode cX4_add 72 = .ok (.iastore, 1) := by decide +kernel
theorem dX4_add_73 : decode cX4_add 73 = .ok (.aload_n 0, 1) := by decide +kernel
theorem dX4_add_74 : decode cX4_add 74 = .ok (.getfield 33, 3) := by decide +kernel
theorem dX4_add_77 : decode cX4_add 77 = .ok (.iload 4, 2) := by decide +kernel
theorem dX4_add_79 : decode cX4_add 79 = .ok (.iconst 0, 1) := by decide +kernel
theorem dX4_add_80 : decode cX4_add 80 = .ok (.iastore, 1) := by decide +kernel
theorem dX4_add_81 : decode cX4_add 81 = .ok (.aload_n 0, 1) := by decide +kernel
theorem dX4_add_82 : decode cX4_add 82 = .ok (.dup, 1) := by decide +kernel
theorem dX4_add_83 : decode cX4_add 83 = .ok (.getfield 39, 3) := by decide +kernel
theorem dX4_add_86 : decode cX4_add 86 = .ok (.iconst 1, 1) := by decide +kernel
theorem dX4_add_87 : decode cX4_add 87 = .ok (.iadd, 1) := by decide +kernel
theorem dX4_add_88 : decode cX4_add 88 = .ok (.putfield 39, 3) := by decide +kernel
theorem dX4_add_91 : decode cX4_add 91 = .ok (.iload 4, 2) := by decide +kernel
theorem dX4_add_93 : decode cX4_add 93 = .ok (.ireturn, 1) := by decide +kernel
theorem dX1_addEstate_0 : decode cX1_addEstate 0 = .ok (.aload_n 0, 1) := by decide +kernel
theorem dX1_addEstate_1 : decode cX1_addEstate 1 = .ok (.getfield 49, 3) := by decide +kernel
theorem dX1_addEstate_4 : decode cX1_addEstate 4 = .ok (.bipush 8, 2) := by decide +kernel
theorem dX1_addEstate_6 : decode cX1_addEstate 6 = .ok (.if_icmp .lt 5, 3) := by decide +kernel
theorem dX1_addEstate_11 : decode cX1_addEstate 11 = .ok (.aload_n 0, 1) := by decide +kernel
theorem dX1_addEstate_12 : decode cX1_addEstate 12 = .ok (.getfield 49, 3) := by decide +kernel
theorem dX1_addEstate_15 : decode cX1_addEstate 15 = .ok (.istore_n 3, 1) := by decide +kernel
theorem dX1_addEstate_16 : decode cX1_addEstate 16 = .ok (.aload_n 0, 1) := by decide +kernel
theorem dX1_addEstate_17 : decode cX1_addEstate 17 = .ok (.getfield 33, 3) := by decide +kernel
theorem dX1_addEstate_20 : decode cX1_addEstate 20 = .ok (.iload_n 3, 1) := by decide +kernel
theorem dX1_addEstate_21 : decode cX1_addEstate 21 = .ok (.iload_n 1, 1) := by decide +kernel
theorem dX1_addEstate_22 : decode cX1_addEstate 22 = .ok (.iastore, 1) := by decide +kernel
theorem dX1_addEstate_23 : decode cX1_addEstate 23 = .ok (.aload_n 0, 1) := by decide +kernel
theorem dX1_addEstate_24 : decode cX1_addEstate 24 = .ok (.getfield 36, 3) := by decide +kernel
theorem dX1_addEstate_27 : decode cX1_addEstate 27 = .ok (.iload_n 3, 1) := by decide +kernel
theorem dX1_addEstate_28 : decode cX1_addEstate 28 = .ok (.iload_n 2, 1) := by decide +kernel
theorem dX1_addEstate_29 : decode cX1_addEstate 29 = .ok (.iastore, 1) := by decide +kernel
theorem dX1_addEstate_30 : decode cX1_addEstate 30 = .ok (.aload_n 0, 1) := by decide +kernel
theorem dX1_addEstate_31 : decode cX1_addEstate 31 = .ok (.getfield 39, 3) := by decide +kernel
theorem dX1_addEstate_34 : decode cX1_addEstate 34 = .ok (.iload_n 3, 1) := by decide +kernel
theorem dX1_addEstate_35 : decode cX1_addEstate 35 = .ok (.iconst (-1), 1) := by decide +kernel
theorem dX1_addEstate_36 : decode cX1_addEstate 36 = .ok (.iastore, 1) := by decide +kernel
theorem dX1_addEstate_37 : decode cX1_addEstate 37 = .ok (.aload_n 0, 1) := by decide +kernel
theorem dX1_addEstate_38 : decode cX1_addEstate 38 = .ok (.dup, 1) := by decide +kernel
theorem dX1_addEstate_39 : decode cX1_addEstate 39 = .ok (.getfield 49, 3) := by decide +kernel
theorem dX1_addEstate_42 : decode cX1_addEstate 42 = .ok (.iconst 1, 1) := by decide +kernel
theorem dX1_addEstate_43 : decode cX1_addEstate 43 = .ok (.iadd, 1) := by decide +kernel
theorem dX1_addEstate_44 : decode cX1_addEstate 44 = .ok (.putfield 49, 3) := by decide +kernel
theorem dX1_addEstate_47 : decode cX1_addEstate 47 = .ok (.iload_n 3, 1) := by decide +kernel
theorem dX1_addEstate_48 : decode cX1_addEstate 48 = .ok (.ireturn, 1) := by decide +kernel
theorem dX1_sumOfRents_0 : decode cX1_sumOfRents 0 = .ok (.lconst 0, 1) := by decide +kernel
theorem dX1_sumOfRents_1 : decode cX1_sumOfRents 1 = .ok (.lstore_n 1, 1) := by decide +kernel
theorem dX1_sumOfRents_2 : decode cX1_sumOfRents 2 = .ok (.iconst 0, 1) := by decide +kernel
theorem dX1_sumOfRents_3 : decode cX1_sumOfRents 3 = .ok (.istore_n 3, 1) := by decide +kernel
theorem dX1_sumOfRents_4 : decode cX1_sumOfRents 4 = .ok (.iload_n 3, 1) := by decide +kernel
theorem dX1_sumOfRents_5 : decode cX1_sumOfRents 5 = .ok (.aload_n 0, 1) := by decide +kernel
theorem dX1_sumOfRents_6 : decode cX1_sumOfRents 6 = .ok (.getfield 46, 3) := by decide +kernel
theorem dX1_sumOfRents_9 : decode cX1_sumOfRents 9 = .ok (.if_icmp .ge 19, 3) := by decide +kernel
theorem dX1_sumOfRents_28 : decode cX1_sumOfRents 28 = .ok (.lload_n 1, 1) := by decide +kernel
theorem dX1_sumOfRents_29 : decode cX1_sumOfRents 29 = .ok (.lreturn, 1) := by decide +kernel
theorem dX1_sumByPlace_0 : decode cX1_sumByPlace 0 = .ok (.lconst 0, 1) := by decide +kernel
theorem dX1_sumByPlace_1 : decode cX1_sumByPlace 1 = .ok (.lstore_n 1, 1) := by decide +kernel
theorem dX1_sumByPlace_2 : decode cX1_sumByPlace 2 = .ok (.iconst 0, 1) := by decide +kernel
theorem dX1_sumByPlace_3 : decode cX1_sumByPlace 3 = .ok (.istore_n 3, 1) := by decide +kernel
theorem dX1_sumByPlace_4 : decode cX1_sumByPlace 4 = .ok (.iload_n 3, 1) := by decide +kernel
theorem dX1_sumByPlace_5 : decode cX1_sumByPlace 5 = .ok (.aload_n 0, 1) := by decide +kernel
theorem dX1_sumByPlace_6 : decode cX1_sumByPlace 6 = .ok (.getfield 46, 3) := by decide +kernel
theorem dX1_sumByPlace_9 : decode cX1_sumByPlace 9 = .ok (.if_icmp .ge 24, 3) := by decide +kernel
theorem dX1_sumByPlace_33 : decode cX1_sumByPlace 33 = .ok (.lload_n 1, 1) := by decide +kernel
theorem dX1_sumByPlace_34 : decode cX1_sumByPlace 34 = .ok (.lreturn, 1) := by decide +kernel
theorem dX1_keepSums_0 : decode cX1_keepSums 0 = .ok (.aload_n 0, 1) := by decide +kernel
theorem dX1_keepSums_1 : decode cX1_keepSums 1 = .ok (.aload_n 0, 1) := by decide +kernel
theorem dX1_keepSums_2 : decode cX1_keepSums 2 = .ok (.getfield 46, 3) := by decide +kernel
theorem dX1_keepSums_5 : decode cX1_keepSums 5 = .ok (.putfield 42, 3) := by decide +kernel
theorem dX1_keepSums_8 : decode cX1_keepSums 8 = .ok (.aload_n 0, 1) := by decide +kernel
theorem dX1_keepSums_9 : decode cX1_keepSums 9 = .ok (.aload_n 0, 1) := by decide +kernel
theorem dX1_keepSums_10 : decode cX1_keepSums 10 = .ok (.invokevirtual 58, 3) := by decide +kernel
theorem dX1_keepSums_13 : decode cX1_keepSums 13 = .ok (.putfield 62, 3) := by decide +kernel
theorem dX1_keepSums_16 : decode cX1_keepSums 16 = .ok (.aload_n 0, 1) := by decide +kernel
theorem dX1_keepSums_17 : decode cX1_keepSums 17 = .ok (.aload_n 0, 1) := by decide +kernel
theorem dX1_keepSums_18 : decode cX1_keepSums 18 = .ok (.invokevirtual 66, 3) := by decide +kernel
theorem dX1_keepSums_21 : decode cX1_keepSums 21 = .ok (.putfield 69, 3) := by decide +kernel
theorem dX1_keepSums_24 : decode cX1_keepSums 24 = .ok (.return_, 1) := by decide +kernel
theorem dX1_findAltered_0 : decode cX1_findAltered 0 = .ok (.aload_n 0, 1) := by decide +kernel
theorem dX1_findAltered_1 : decode cX1_findAltered 1 = .ok (.getfield 42, 3) := by decide +kernel
theorem dX1_findAltered_4 : decode cX1_findAltered 4 = .ok (.iconst (-1), 1) := by decide +kernel
theorem dX1_findAltered_5 : decode cX1_findAltered 5 = .ok (.if_icmp .ne 6, 3) := by decide +kernel
theorem dX1_findAltered_8 : decode cX1_findAltered 8 = .ok (.bipush (-3), 2) := by decide +kernel
theorem dX1_findAltered_10 : decode cX1_findAltered 10 = .ok (.ireturn, 1) := by decide +kernel
theorem dX3_addOffer_0 : decode cX3_addOffer 0 = .ok (.aload_n 0, 1) := by decide +kernel
theorem dX3_addOffer_1 : decode cX3_addOffer 1 = .ok (.getfield 22, 3) := by decide +kernel
theorem dX3_addOffer_4 : decode cX3_addOffer 4 = .ok (.bipush 9, 2) := by decide +kernel
theorem dX3_addOffer_6 : decode cX3_addOffer 6 = .ok (.if_icmp .lt 5, 3) := by decide +kernel
theorem dX3_addOffer_11 : decode cX3_addOffer 11 = .ok (.aload_n 0, 1) := by decide +kernel
theorem dX3_addOffer_12 : decode cX3_addOffer 12 = .ok (.getfield 15, 3) := by decide +kernel
theorem dX3_addOffer_15 : decode cX3_addOffer 15 = .ok (.aload_n 0, 1) := by decide +kernel
theorem dX3_addOffer_16 : decode cX3_addOffer 16 = .ok (.getfield 22, 3) := by decide +kernel
theorem dX3_addOffer_19 : decode cX3_addOffer 19 = .ok (.iload_n 1, 1) := by decide +kernel
theorem dX3_addOffer_20 : decode cX3_addOffer 20 = .ok (.iastore, 1) := by decide +kernel
theorem dX3_addOffer_21 : decode cX3_addOffer 21 = .ok (.aload_n 0, 1) := by decide +kernel
theorem dX3_addOffer_22 : decode cX3_addOffer 22 = .ok (.getfield 19, 3) := by decide +kernel
theorem dX3_addOffer_25 : decode cX3_addOffer 25 = .ok (.aload_n 0, 1) := by decide +kernel
theorem dX3_addOffer_26 : decode cX3_addOffer 26 = .ok (.getfield 22, 3) := by decide +kernel
theorem dX3_addOffer_29 : decode cX3_addOffer 29 = .ok (.iload_n 2, 1) := by decide +kernel
theorem dX3_addOffer_30 : decode cX3_addOffer 30 = .ok (.iastore, 1) := by decide +kernel
theorem dX3_addOffer_31 : decode cX3_addOffer 31 = .ok (.aload_n 0, 1) := by decide +kernel
theorem dX3_addOffer_32 : decode cX3_addOffer 32 = .ok (.dup, 1) := by decide +kernel
theorem dX3_addOffer_33 : decode cX3_addOffer 33 = .ok (.getfield 22, 3) := by decide +kernel
theorem dX3_addOffer_36 : decode cX3_addOffer 36 = .ok (.iconst 1, 1) := by decide +kernel
theorem dX3_addOffer_37 : decode cX3_addOffer 37 = .ok (.iadd, 1) := by decide +kernel
theorem dX3_addOffer_38 : decode cX3_addOffer 38 = .ok (.putfield 22, 3) := by decide +kernel
theorem dX3_addOffer_41 : decode cX3_addOffer 41 = .ok (.aload_n 0, 1) := by decide +kernel
theorem dX3_addOffer_42 : decode cX3_addOffer 42 = .ok (.getfield 22, 3) := by decide +kernel
theorem dX3_addOffer_45 : decode cX3_addOffer 45 = .ok (.ireturn, 1) := by decide +kernel
theorem dX3_sumOf_0 : decode cX3_sumOf 0 = .ok (.iconst 0, 1) := by decide +kernel
theorem dX3_sumOf_1 : decode cX3_sumOf 1 = .ok (.istore_n 3, 1) := by decide +kernel
theorem dX3_sumOf_2 : decode cX3_sumOf 2 = .ok (.iconst 0, 1) := by decide +kernel
theorem dX3_sumOf_3 : decode cX3_sumOf 3 = .ok (.istore 4, 2) := by decide +kernel
theorem dX3_sumOf_5 : decode cX3_sumOf 5 = .ok (.iload 4, 2) := by decide +kernel
theorem dX3_sumOf_7 : decode cX3_sumOf 7 = .ok (.aload_n 0, 1) := by decide +kernel
theorem dX3_sumOf_8 : decode cX3_sumOf 8 = .ok (.getfield 22, 3) := by decide +kernel
theorem dX3_sumOf_11 : decode cX3_sumOf 11 = .ok (.if_icmp .ge 37, 3) := by decide +kernel
theorem dX3_sumOf_48 : decode cX3_sumOf 48 = .ok (.iload_n 3, 1) := by decide +kernel
theorem dX3_sumOf_49 : decode cX3_sumOf 49 = .ok (.ireturn, 1) := by decide +kernel
theorem dX3_bestSet_0 : decode cX3_bestSet 0 = .ok (.iconst (-1), 1) := by decide +kernel
theorem dX3_bestSet_1 : decode cX3_bestSet 1 = .ok (.istore_n 3, 1) := by decide +kernel
theorem dX3_bestSet_2 : decode cX3_bestSet 2 = .ok (.iconst 0, 1) := by decide +kernel
theorem dX3_bestSet_3 : decode cX3_bestSet 3 = .ok (.istore 4, 2) := by decide +kernel
theorem dX3_bestSet_5 : decode cX3_bestSet 5 = .ok (.iconst 0, 1) := by decide +kernel
theorem dX3_bestSet_6 : decode cX3_bestSet 6 = .ok (.istore 5, 2) := by decide +kernel
theorem dX3_bestSet_8 : decode cX3_bestSet 8 = .ok (.iload 5, 2) := by decide +kernel
theorem dX3_bestSet_10 : decode cX3_bestSet 10 = .ok (.iconst 1, 1) := by decide +kernel
theorem dX3_bestSet_11 : decode cX3_bestSet 11 = .ok (.aload_n 0, 1) := by decide +kernel
theorem dX3_bestSet_12 : decode cX3_bestSet 12 = .ok (.getfield 22, 3) := by decide +kernel
theorem dX3_bestSet_15 : decode cX3_bestSet 15 = .ok (.ishl, 1) := by decide +kernel
theorem dX3_bestSet_16 : decode cX3_bestSet 16 = .ok (.if_icmp .ge 99, 3) := by decide +kernel
theorem dX3_bestSet_19 : decode cX3_bestSet 19 = .ok (.aload_n 0, 1) := by decide +kernel
theorem dX3_bestSet_20 : decode cX3_bestSet 20 = .ok (.iload 5, 2) := by decide +kernel
theorem dX3_bestSet_22 : decode cX3_bestSet 22 = .ok (.aload_n 0, 1) := by decide +kernel
theorem dX3_bestSet_23 : decode cX3_bestSet 23 = .ok (.getfield 15, 3) := by decide +kernel
theorem dX3_bestSet_26 : decode cX3_bestSet 26 = .ok (.invokevirtual 25, 3) := by decide +kernel
theorem dX3_bestSet_29 : decode cX3_bestSet 29 = .ok (.istore 6, 2) := by decide +kernel
theorem dX3_bestSet_31 : decode cX3_bestSet 31 = .ok (.aload_n 0, 1) := by decide +kernel
theorem dX3_bestSet_32 : decode cX3_bestSet 32 = .ok (.iload 5, 2) := by decide +kernel
theorem dX3_bestSet_34 : decode cX3_bestSet 34 = .ok (.aload_n 0, 1) := by decide +kernel
theorem dX3_bestSet_35 : decode cX3_bestSet 35 = .ok (.getfield 19, 3) := by decide +kernel
theorem dX3_bestSet_38 : decode cX3_bestSet 38 = .ok (.invokevirtual 25, 3) := by decide +kernel
theorem dX3_bestSet_41 : decode cX3_bestSet 41 = .ok (.istore 7, 2) := by decide +kernel
theorem dX3_bestSet_43 : decode cX3_bestSet 43 = .ok (.iload 6, 2) := by decide +kernel
theorem dX3_bestSet_45 : decode cX3_bestSet 45 = .ok (.iload_n 1, 1) := by decide +kernel
theorem dX3_bestSet_46 : decode cX3_bestSet 46 = .ok (.if_icmp .lt 63, 3) := by decide +kernel
theorem dX3_bestSet_109 : decode cX3_bestSet 109 = .ok (.iinc 5 1, 3) := by decide +kernel
theorem dX3_bestSet_112 : decode cX3_bestSet 112 = .ok (.goto (-104), 3) := by decide +kernel
theorem dX3_bestSet_115 : decode cX3_bestSet 115 = .ok (.iload_n 3, 1) := by decide +kernel
theorem dX3_bestSet_116 : decode cX3_bestSet 116 = .ok (.ireturn, 1) := by decide +kernel
theorem dX3_bestSet_49 : decode cX3_bestSet 49 = .ok (.iload 7, 2) := by decide +kernel
theorem dX3_bestSet_51 : decode cX3_bestSet 51 = .ok (.iload_n 2, 1) := by decide +kernel
theorem dX3_bestSet_52 : decode cX3_bestSet 52 = .ok (.if_icmp .ge 6, 3) := by decide +kernel
theorem dX3_bestSet_58 : decode cX3_bestSet 58 = .ok (.iload_n 3, 1) := by decide +kernel
theorem dX3_bestSet_59 : decode cX3_bestSet 59 = .ok (.iconst (-1), 1) := by decide +kernel
theorem dX3_bestSet_60 : decode cX3_bestSet 60 = .ok (.if_icmp .ne 7, 3) := by decide +kernel
theorem dX3_bestSet_63 : decode cX3_bestSet 63 = .ok (.iconst 1, 1) := by decide +kernel
theorem dX3_bestSet_64 : decode cX3_bestSet 64 = .ok (.goto 13, 3) := by decide +kernel
theorem dX3_bestSet_77 : decode cX3_bestSet 77 = .ok (.istore 8, 2) := by decide +kernel
theorem dX3_bestSet_79 : decode cX3_bestSet 79 = .ok (.iload 8, 2) := by decide +kernel
theorem dX3_bestSet_81 : decode cX3_bestSet 81 = .ok (.ifCond .gt 18, 3) := by decide +kernel
theorem dX3_bestSet_99 : decode cX3_bestSet 99 = .ok (.iload 5, 2) := by decide +kernel
theorem dX3_bestSet_101 : decode cX3_bestSet 101 = .ok (.istore_n 3, 1) := by decide +kernel
theorem dX3_bestSet_102 : decode cX3_bestSet 102 = .ok (.iload 6, 2) := by decide +kernel
theorem dX3_bestSet_104 : decode cX3_bestSet 104 = .ok (.iload 7, 2) := by decide +kernel
theorem dX3_bestSet_106 : decode cX3_bestSet 106 = .ok (.iadd, 1) := by decide +kernel
theorem dX3_bestSet_107 : decode cX3_bestSet 107 = .ok (.istore 4, 2) := by decide +kernel
theorem dX3_bestSet_55 : decode cX3_bestSet 55 = .ok (.goto 54, 3) := by decide +kernel
theorem dX8_append_0 : decode cX8_append 0 = .ok (.bipush 24, 2) := by decide +kernel
theorem dX8_append_2 : decode cX8_append 2 = .ok (.istore_n 2, 1) := by decide +kernel
theorem dX8_append_3 : decode cX8_append 3 = .ok (.iload_n 2, 1) := by decide +kernel
theorem dX8_append_4 : decode cX8_append 4 = .ok (.ifCond .lt 45, 3) := by decide +kernel
theorem dX8_append_7 : decode cX8_append 7 = .ok (.aload_n 0, 1) := by decide +kernel
theorem dX8_append_8 : decode cX8_append 8 = .ok (.getfield 19, 3) := by decide +kernel
theorem dX8_append_11 : decode cX8_append 11 = .ok (.sipush 400, 3) := by decide +kernel
theorem dX8_append_14 : decode cX8_append 14 = .ok (.if_icmp .ge 35, 3) := by decide +kernel
theorem dX8_append_17 : decode cX8_append 17 = .ok (.aload_n 0, 1) := by decide +kernel
theorem dX8_append_18 : decode cX8_append 18 = .ok (.getfield 9, 3) := by decide +kernel
theorem dX8_append_21 : decode cX8_append 21 = .ok (.aload_n 0, 1) := by decide +kernel
theorem dX8_append_22 : decode cX8_append 22 = .ok (.getfield 19, 3) := by decide +kernel
theorem dX8_append_25 : decode cX8_append 25 = .ok (.iload_n 1, 1) := by decide +kernel
theorem dX8_append_26 : decode cX8_append 26 = .ok (.iload_n 2, 1) := by decide +kernel
theorem dX8_append_27 : decode cX8_append 27 = .ok (.iushr, 1) := by decide +kernel
theorem dX8_append_28 : decode cX8_append 28 = .ok (.sipush 255, 3) := by decide +kernel
theorem dX8_append_31 : decode cX8_append 31 = .ok (.iand, 1) := by decide +kernel
theorem dX8_append_32 : decode cX8_append 32 = .ok (.iastore, 1) := by decide +kernel
theorem dX8_append_33 : decode cX8_append 33 = .ok (.aload_n 0, 1) := by decide +kernel
theorem dX8_append_34 : decode cX8_append 34 = .ok (.dup, 1) := by decide +kernel
theorem dX8_append_35 : decode cX8_append 35 = .ok (.getfield 19, 3) := by decide +kernel
theorem dX8_append_38 : decode cX8_append 38 = .ok (.iconst 1, 1) := by decide +kernel
theorem dX8_append_39 : decode cX8_append 39 = .ok (.iadd, 1) := by decide +kernel
theorem dX8_append_40 : decode cX8_append 40 = .ok (.putfield 19, 3) := by decide +kernel
theorem dX8_append_43 : decode cX8_append 43 = .ok (.iinc 2 (-8), 3) := by decide +kernel
theorem dX8_append_46 : decode cX8_append 46 = .ok (.goto (-43), 3) := by decide +kernel
theorem dX8_append_49 : decode cX8_append 49 = .ok (.return_, 1) := by decide +kernel
theorem dX5_fail_0 : decode cX5_fail 0 = .ok (.aload_n 0, 1) := by decide +kernel
theorem dX5_fail_1 : decode cX5_fail 1 = .ok (.getfield 9, 3) := by decide +kernel
theorem dX5_fail_4 : decode cX5_fail 4 = .ok (.iconst (-1), 1) := by decide +kernel
theorem dX5_fail_5 : decode cX5_fail 5 = .ok (.if_icmp .ne 16, 3) := by decide +kernel
theorem dX5_fail_8 : decode cX5_fail 8 = .ok (.aload_n 0, 1) := by decide +kernel
theorem dX5_fail_9 : decode cX5_fail 9 = .ok (.aload_n 0, 1) := by decide +kernel
theorem dX5_fail_10 : decode cX5_fail 10 = .ok (.getfield 40, 3) := by decide +kernel
theorem dX5_fail_13 : decode cX5_fail 13 = .ok (.aload_n 0, 1) := by decide +kernel
theorem dX5_fail_14 : decode cX5_fail 14 = .ok (.getfield 60, 3) := by decide +kernel
theorem dX5_fail_17 : decode cX5_fail 17 = .ok (.iaload, 1) := by decide +kernel
theorem dX5_fail_18 : decode cX5_fail 18 = .ok (.putfield 9, 3) := by decide +kernel
theorem dX5_fail_21 : decode cX5_fail 21 = .ok (.return_, 1) := by decide +kernel
theorem dX5_split_0 : decode cX5_split 0 = .ok (.aload_n 0, 1) := by decide +kernel
theorem dX5_split_1 : decode cX5_split 1 = .ok (.iconst 0, 1) := by decide +kernel
theorem dX5_split_2 : decode cX5_split 2 = .ok (.putfield 69, 3) := by decide +kernel
theorem dX5_split_5 : decode cX5_split 5 = .ok (.iconst 0, 1) := by decide +kernel
theorem dX5_split_6 : decode cX5_split 6 = .ok (.istore_n 2, 1) := by decide +kernel
theorem dX5_split_7 : decode cX5_split 7 = .ok (.iconst 0, 1) := by decide +kernel
theorem dX5_split_8 : decode cX5_split 8 = .ok (.istore_n 3, 1) := by decide +kernel
theorem dX5_split_9 : decode cX5_split 9 = .ok (.iload_n 3, 1) := by decide +kernel
theorem dX5_split_10 : decode cX5_split 10 = .ok (.aload_n 1, 1) := by decide +kernel
theorem dX5_split_11 : decode cX5_split 11 = .ok (.getfield 80, 3) := by decide +kernel
theorem dX5_split_14 : decode cX5_split 14 = .ok (.if_icmp .ge 140, 3) := by decide +kernel
theorem dX5_split_154 : decode cX5_split 154 = .ok (.aload_n 0, 1) := by decide +kernel
theorem dX5_split_155 : decode cX5_split 155 = .ok (.getfield 40, 3) := by decide +kernel
theorem dX5_split_158 : decode cX5_split 158 = .ok (.aload_n 0, 1) := by decide +kernel
theorem dX5_split_159 : decode cX5_split 159 = .ok (.getfield 69, 3) := by decide +kernel
theorem dX5_split_162 : decode cX5_split 162 = .ok (.aload_n 1, 1) := by decide +kernel
theorem dX5_split_163 : decode cX5_split 163 = .ok (.getfield 80, 3) := by decide +kernel
theorem dX5_split_166 : decode cX5_split 166 = .ok (.iastore, 1) := by decide +kernel
theorem dX5_split_167 : decode cX5_split 167 = .ok (.aload_n 0, 1) := by decide +kernel
theorem dX5_split_168 : decode cX5_split 168 = .ok (.getfield 37, 3) := by decide +kernel
theorem dX5_split_171 : decode cX5_split 171 = .ok (.aload_n 0, 1) := by decide +kernel
theorem dX5_split_172 : decode cX5_split 172 = .ok (.getfield 69, 3) := by decide +kernel
theorem dX5_split_175 : decode cX5_split 175 = .ok (.sipush 302, 3) := by decide +kernel
theorem dX5_split_178 : decode cX5_split 178 = .ok (.iastore, 1) := by decide +kernel
theorem dX5_split_179 : decode cX5_split 179 = .ok (.return_, 1) := by decide +kernel
theorem dX5_readClause_0 : decode cX5_readClause 0 = .ok (.aload_n 0, 1) := by decide +kernel
theorem dX5_readClause_1 : decode cX5_readClause 1 = .ok (.getfield 50, 3) := by decide +kernel
theorem dX5_readClause_4 : decode cX5_readClause 4 = .ok (.bipush 12, 2) := by decide +kernel
theorem dX5_readClause_6 : decode cX5_readClause 6 = .ok (.if_icmp .lt 8, 3) := by decide +kernel
theorem dX5_readClause_14 : decode cX5_readClause 14 = .ok (.aload_n 0, 1) := by decide +kernel
theorem dX5_readClause_15 : decode cX5_readClause 15 = .ok (.getfield 50, 3) := by decide +kernel
theorem dX5_readClause_18 : decode cX5_readClause 18 = .ok (.istore_n 1, 1) := by decide +kernel
theorem dX5_readClause_19 : decode cX5_readClause 19 = .ok (.aload_n 0, 1) := by decide +kernel
theorem dX5_readClause_20 : decode cX5_readClause 20 = .ok (.getfield 37, 3) := by decide +kernel
theorem dX5_readClause_23 : decode cX5_readClause 23 = .ok (.aload_n 0, 1) := by decide +kernel
theorem dX5_readClause_24 : decode cX5_readClause 24 = .ok (.getfield 60, 3) := by decide +kernel
theorem dX5_readClause_27 : decode cX5_readClause 27 = .ok (.iaload, 1) := by decide +kernel
theorem dX5_readClause_28 : decode cX5_readClause 28 = .ok (.istore_n 2, 1) := by decide +kernel
theorem dX5_readClause_29 : decode cX5_readClause 29 = .ok (.iconst 0, 1) := by decide +kernel
theorem dX5_readClause_30 : decode cX5_readClause 30 = .ok (.istore_n 3, 1) := by decide +kernel
theorem dX5_readClause_31 : decode cX5_readClause 31 = .ok (.aload_n 0, 1) := by decide +kernel
theorem dX5_readClause_32 : decode cX5_readClause 32 = .ok (.dup, 1) := by decide +kernel
theorem dX5_readClause_33 : decode cX5_readClause 33 = .ok (.getfield 50, 3) := by decide +kernel
theorem dX5_readClause_36 : decode cX5_readClause 36 = .ok (.iconst 1, 1) := by decide +kernel
theorem dX5_readClause_37 : decode cX5_readClause 37 = .ok (.iadd, 1) := by decide +kernel
theorem dX5_readClause_38 : decode cX5_readClause 38 = .ok (.putfield 50, 3) := by decide +kernel
theorem dX5_readClause_41 : decode cX5_readClause 41 = .ok (.aload_n 0, 1) := by decide +kernel
theorem dX5_readClause_42 : decode cX5_readClause 42 = .ok (.getfield 15, 3) := by decide +kernel
theorem dX5_readClause_45 : decode cX5_readClause 45 = .ok (.iload_n 1, 1) := by decide +kernel
theorem dX5_readClause_46 : decode cX5_readClause 46 = .ok (.iload_n 2, 1) := by decide +kernel
theorem dX5_readClause_47 : decode cX5_readClause 47 = .ok (.iastore, 1) := by decide +kernel
theorem dX5_readClause_48 : decode cX5_readClause 48 = .ok (.aload_n 0, 1) := by decide +kernel
theorem dX5_readClause_49 : decode cX5_readClause 49 = .ok (.getfield 19, 3) := by decide +kernel
theorem dX5_readClause_52 : decode cX5_readClause 52 = .ok (.iload_n 1, 1) := by decide +kernel
theorem dX5_readClause_53 : decode cX5_readClause 53 = .ok (.iconst 0, 1) := by decide +kernel
theorem dX5_readClause_54 : decode cX5_readClause 54 = .ok (.iastore, 1) := by decide +kernel
theorem dX5_readClause_55 : decode cX5_readClause 55 = .ok (.aload_n 0, 1) := by decide +kernel
theorem dX5_readClause_56 : decode cX5_readClause 56 = .ok (.getfield 22, 3) := by decide +kernel
theorem dX5_readClause_59 : decode cX5_readClause 59 = .ok (.iload_n 1, 1) := by decide +kernel
theorem dX5_readClause_60 : decode cX5_readClause 60 = .ok (.iconst 0, 1) := by decide +kernel
theorem dX5_readClause_61 : decode cX5_readClause 61 = .ok (.iastore, 1) := by decide +kernel
theorem dX5_readClause_62 : decode cX5_readClause 62 = .ok (.aload_n 0, 1) := by decide +kernel
theorem dX5_readClause_63 : decode cX5_readClause 63 = .ok (.getfield 25, 3) := by decide +kernel
theorem dX5_readClause_66 : decode cX5_readClause 66 = .ok (.iload_n 1, 1) := by decide +kernel
theorem dX5_readClause_67 : decode cX5_readClause 67 = .ok (.aload_n 0, 1) := by decide +kernel
theorem dX5_readClause_68 : decode cX5_readClause 68 = .ok (.getfield 57, 3) := by decide +kernel
theorem dX5_readClause_71 : decode cX5_readClause 71 = .ok (.iastore, 1) := by decide +kernel
theorem dX5_readClause_72 : decode cX5_readClause 72 = .ok (.iload_n 2, 1) := by decide +kernel
theorem dX5_readClause_73 : decode cX5_readClause 73 = .ok (.sipush 256, 3) := by decide +kernel
theorem dX5_readClause_76 : decode cX5_readClause 76 = .ok (.if_icmp .ne 49, 3) := by decide +kernel
theorem dX5_readClause_125 : decode cX5_readClause 125 = .ok (.iload_n 2, 1) := by decide +kernel
theorem dX5_readClause_126 : decode cX5_readClause 126 = .ok (.sipush 258, 3) := by decide +kernel
theorem dX5_readClause_129 : decode cX5_readClause 129 = .ok (.if_icmp .ne 41, 3) := by decide +kernel
theorem dX5_readClause_170 : decode cX5_readClause 170 = .ok (.iload_n 2, 1) := by decide +kernel
theorem dX5_readClause_171 : decode cX5_readClause 171 = .ok (.sipush 260, 3) := by decide +kernel
theorem dX5_readClause_174 : decode cX5_readClause 174 = .ok (.if_icmp .eq 10, 3) := by decide +kernel
theorem dX5_readClause_177 : decode cX5_readClause 177 = .ok (.iload_n 2, 1) := by decide +kernel
theorem dX5_readClause_178 : decode cX5_readClause 178 = .ok (.sipush 261, 3) := by decide +kernel
theorem dX5_readClause_181 : decode cX5_readClause 181 = .ok (.if_icmp .ne 23, 3) := by decide +kernel
theorem dX5_readClause_204 : decode cX5_readClause 204 = .ok (.iload_n 2, 1) := by decide +kernel
theorem dX5_readClause_205 : decode cX5_readClause 205 = .ok (.sipush 262, 3) := by decide +kernel
theorem dX5_readClause_208 : decode cX5_readClause 208 = .ok (.if_icmp .eq 17, 3) := by decide +kernel
theorem dX5_readClause_211 : decode cX5_readClause 211 = .ok (.iload_n 2, 1) := by decide +kernel
theorem dX5_readClause_212 : decode cX5_readClause 212 = .ok (.sipush 263, 3) := by decide +kernel
theorem dX5_readClause_215 : decode cX5_readClause 215 = .ok (.if_icmp .eq 10, 3) := by decide +kernel
theorem dX5_readClause_218 : decode cX5_readClause 218 = .ok (.iload_n 2, 1) := by decide +kernel
theorem dX5_readClause_219 : decode cX5_readClause 219 = .ok (.sipush 264, 3) := by decide +kernel
theorem dX5_readClause_222 : decode cX5_readClause 222 = .ok (.if_icmp .ne 26, 3) := by decide +kernel
theorem dX5_readClause_248 : decode cX5_readClause 248 = .ok (.aload_n 0, 1) := by decide +kernel
theorem dX5_readClause_249 : decode cX5_readClause 249 = .ok (.invokevirtual 72, 3) := by decide +kernel
theorem dX5_readClause_252 : decode cX5_readClause 252 = .ok (.iload_n 3, 1) := by decide +kernel
theorem dX5_readClause_253 : decode cX5_readClause 253 = .ok (.ifCond .eq 49, 3) := by decide +kernel
theorem dX5_readClause_302 : decode cX5_readClause 302 = .ok (.aload_n 0, 1) := by decide +kernel
theorem dX5_readClause_303 : decode cX5_readClause 303 = .ok (.getfield 28, 3) := by decide +kernel
theorem dX5_readClause_306 : decode cX5_readClause 306 = .ok (.iload_n 1, 1) := by decide +kernel
theorem dX5_readClause_307 : decode cX5_readClause 307 = .ok (.aload_n 0, 1) := by decide +kernel
theorem dX5_readClause_308 : decode cX5_readClause 308 = .ok (.getfield 57, 3) := by decide +kernel
theorem dX5_readClause_311 : decode cX5_readClause 311 = .ok (.iastore, 1) := by decide +kernel
theorem dX5_readClause_312 : decode cX5_readClause 312 = .ok (.return_, 1) := by decide +kernel
theorem dX5_read_0 : decode cX5_read 0 = .ok (.aload_n 0, 1) := by decide +kernel
theorem dX5_read_1 : decode cX5_read 1 = .ok (.aload_n 1, 1) := by decide +kernel
theorem dX5_read_2 : decode cX5_read 2 = .ok (.invokevirtual 46, 3) := by decide +kernel
theorem dX5_read_5 : decode cX5_read 5 = .ok (.aload_n 0, 1) := by decide +kernel
theorem dX5_read_6 : decode cX5_read 6 = .ok (.iconst (-1), 1) := by decide +kernel
theorem dX5_read_7 : decode cX5_read 7 = .ok (.putfield 9, 3) := by decide +kernel
theorem dX5_read_10 : decode cX5_read 10 = .ok (.aload_n 0, 1) := by decide +kernel
theorem dX5_read_11 : decode cX5_read 11 = .ok (.iconst 0, 1) := by decide +kernel
theorem dX5_read_12 : decode cX5_read 12 = .ok (.putfield 50, 3) := by decide +kernel
theorem dX5_read_15 : decode cX5_read 15 = .ok (.aload_n 0, 1) := by decide +kernel
theorem dX5_read_16 : decode cX5_read 16 = .ok (.iconst 0, 1) := by decide +kernel
theorem dX5_read_17 : decode cX5_read 17 = .ok (.putfield 53, 3) := by decide +kernel
theorem dX5_read_20 : decode cX5_read 20 = .ok (.aload_n 0, 1) := by decide +kernel
theorem dX5_read_21 : decode cX5_read 21 = .ok (.iconst 0, 1) := by decide +kernel
theorem dX5_read_22 : decode cX5_read 22 = .ok (.putfield 57, 3) := by decide +kernel
theorem dX5_read_25 : decode cX5_read 25 = .ok (.aload_n 0, 1) := by decide +kernel
theorem dX5_read_26 : decode cX5_read 26 = .ok (.iconst 0, 1) := by decide +kernel
theorem dX5_read_27 : decode cX5_read 27 = .ok (.putfield 60, 3) := by decide +kernel
theorem dX5_read_30 : decode cX5_read 30 = .ok (.aload_n 0, 1) := by decide +kernel
theorem dX5_read_31 : decode cX5_read 31 = .ok (.iconst 0, 1) := by decide +kernel
theorem dX5_read_32 : decode cX5_read 32 = .ok (.putfield 63, 3) := by decide +kernel
theorem dX5_read_35 : decode cX5_read 35 = .ok (.aload_n 0, 1) := by decide +kernel
theorem dX5_read_36 : decode cX5_read 36 = .ok (.invokevirtual 66, 3) := by decide +kernel
theorem dX5_read_39 : decode cX5_read 39 = .ok (.iconst 0, 1) := by decide +kernel
theorem dX5_read_40 : decode cX5_read 40 = .ok (.istore_n 3, 1) := by decide +kernel
theorem dX5_read_41 : decode cX5_read 41 = .ok (.iload_n 3, 1) := by decide +kernel
theorem dX5_read_42 : decode cX5_read 42 = .ok (.aload_n 0, 1) := by decide +kernel
theorem dX5_read_43 : decode cX5_read 43 = .ok (.getfield 69, 3) := by decide +kernel
theorem dX5_read_46 : decode cX5_read 46 = .ok (.if_icmp .ge 45, 3) := by decide +kernel
theorem dX5_read_91 : decode cX5_read 91 = .ok (.aload_n 0, 1) := by decide +kernel
theorem dX5_read_92 : decode cX5_read 92 = .ok (.getfield 37, 3) := by decide +kernel
theorem dX5_read_95 : decode cX5_read 95 = .ok (.aload_n 0, 1) := by decide +kernel
theorem dX5_read_96 : decode cX5_read 96 = .ok (.getfield 60, 3) := by decide +kernel
theorem dX5_read_99 : decode cX5_read 99 = .ok (.iaload, 1) := by decide +kernel
theorem dX5_read_100 : decode cX5_read 100 = .ok (.sipush 302, 3) := by decide +kernel
theorem dX5_read_103 : decode cX5_read 103 = .ok (.if_icmp .eq 7, 3) := by decide +kernel
theorem dX5_read_110 : decode cX5_read 110 = .ok (.aload_n 0, 1) := by decide +kernel
theorem dX5_read_111 : decode cX5_read 111 = .ok (.getfield 9, 3) := by decide +kernel
theorem dX5_read_114 : decode cX5_read 114 = .ok (.iconst (-1), 1) := by decide +kernel
theorem dX5_read_115 : decode cX5_read 115 = .ok (.if_icmp .ne 15, 3) := by decide +kernel
theorem dX5_read_130 : decode cX5_read 130 = .ok (.aconst_null, 1) := by decide +kernel
theorem dX5_read_131 : decode cX5_read 131 = .ok (.areturn, 1) := by decide +kernel
theorem dX11_canChoose_0 : decode cX11_canChoose 0 = .ok (.aload_n 0, 1) := by decide +kernel
theorem dX11_canChoose_1 : decode cX11_canChoose 1 = .ok (.iload_n 1, 1) := by decide +kernel
theorem dX11_canChoose_2 : decode cX11_canChoose 2 = .ok (.invokevirtual 273, 3) := by decide +kernel
theorem dX11_canChoose_5 : decode cX11_canChoose 5 = .ok (.ifCond .eq 10, 3) := by decide +kernel
theorem dX11_canChoose_8 : decode cX11_canChoose 8 = .ok (.aload_n 0, 1) := by decide +kernel
theorem dX11_canChoose_9 : decode cX11_canChoose 9 = .ok (.getfield 312, 3) := by decide +kernel
theorem dX11_canChoose_12 : decode cX11_canChoose 12 = .ok (.ifCond .ne 5, 3) := by decide +kernel
theorem dX11_canChoose_15 : decode cX11_canChoose 15 = .ok (.iconst 0, 1) := by decide +kernel
theorem dX11_canChoose_16 : decode cX11_canChoose 16 = .ok (.ireturn, 1) := by decide +kernel
theorem dX11_whyNoRow_0 : decode cX11_whyNoRow 0 = .ok (.iload_n 1, 1) := by decide +kernel
theorem dX11_whyNoRow_1 : decode cX11_whyNoRow 1 = .ok (.invokestatic 191, 3) := by decide +kernel
theorem dX11_whyNoRow_4 : decode cX11_whyNoRow 4 = .ok (.ifCond .ne 5, 3) := by decide +kernel
theorem dX11_whyNoRow_9 : decode cX11_whyNoRow 9 = .ok (.aload_n 0, 1) := by decide +kernel
theorem dX11_whyNoRow_10 : decode cX11_whyNoRow 10 = .ok (.getfield 12, 3) := by decide +kernel
theorem dX11_whyNoRow_13 : decode cX11_whyNoRow 13 = .ok (.getfield 114, 3) := by decide +kernel
theorem dX11_whyNoRow_16 : decode cX11_whyNoRow 16 = .ok (.iload_n 2, 1) := by decide +kernel
theorem dX11_whyNoRow_17 : decode cX11_whyNoRow 17 = .ok (.invokevirtual 150, 3) := by decide +kernel
theorem dX11_whyNoRow_20 : decode cX11_whyNoRow 20 = .ok (.ifCond .ne 6, 3) := by decide +kernel
theorem dX11_whyNoRow_23 : decode cX11_whyNoRow 23 = .ok (.bipush (-2), 2) := by decide +kernel
theorem dX11_whyNoRow_25 : decode cX11_whyNoRow 25 = .ok (.ireturn, 1) := by decide +kernel
theorem dX11_whyNoRow_7 : decode cX11_whyNoRow 7 = .ok (.iconst (-1), 1) := by decide +kernel
theorem dX11_whyNoRow_8 : decode cX11_whyNoRow 8 = .ok (.ireturn, 1) := by decide +kernel
def d_X11_within : List Cond := []
def v_X11_within : List Cond := Cond.code yX11_within cX11_within 3 (some .boolean) :: (d_X11_within ++ ([] : List Cond))
theorem gd_X11_within : Gd v_X11_within := gd_mk (by decide +kernel) gd_nil
set_option maxHeartbeats 4000000 in
set_option maxRecDepth 100000 in
theorem c_X11_within (l : Launch) (G : va_G) (cI cJ cZ cD cR cT : ClassId) (x : Int32) (lo : Int32) (hi : Int32) (X : Int) (L : Int) (U : Int) (sz : Nat) (hX : x.toInt = X) (hL : lo.toInt = L) (hU : hi.toInt = U) : Met l yX11_within v_X11_within ({ frames := 1, cells := 0, slots := 0, locals := 40 }) (va_Pc [.int x, .int lo, .int hi] (PreW G (tys6 cI cJ cZ cD cR cT) [] sz)) (QW (RI (fun r => (r = 1 ∧ (L ≤ X ∧ X ≤ U)) ∨ (r = 0 ∧ (X < L ∨ U < X)))) G (va_A [] sz) (fun q g => [])) 0 0 (va_A [] sz) := by
  refine metW (cc := cX11_within) (maxL := 3) (ret := (some .boolean)) (by decide) rfl (Nat.le_of_ble_eq_true rfl) ?_
  intro p e s m below meth c A ls hx hb hr hml hown hts hlocks hin hKK hP hD hA hS hl
  have hK := hKK.1
  have hown : s.vm.findClass RX11 = some m.cls := hown
  have hl : lv_has ls 3 [(0, .int x), (1, .int lo), (2, .int hi)] := hl
  have hP : va_P G vwCl [] s.heap := hP
  have hD : va_D A [] := hD
  refine lv_iload_n hx hb dX11_within_0 rfl (lv_at hl 0 rfl) ?_
  refine lv_iload_n hx hb dX11_within_1 rfl (lv_at hl 1 rfl) ?_
  refine lv_icmp_lt (tgt := 14) hx hb dX11_within_2 (by decide) (fun c1 => ?_) (fun c1 => ?_)
  · have f2 : (x.toInt : Int) < lo.toInt := Int32.lt_iff_toInt_lt.mp c1
    refine lv_iconst (v := 0) hx hb dX11_within_14 (by decide) ?_
    exact retZ hx hb hr hlocks (by decide) ⟨_, rfl, Or.inr (⟨rfl, by omega⟩)⟩ hP hD hS (fun _ => 0) (fun _ _ => 0) [] (by decide +kernel) rfl dX11_within_15
  · have f3 : ¬ ((x.toInt : Int) < lo.toInt) := fun h => c1 (Int32.lt_iff_toInt_lt.mpr h)
    refine lv_iload_n hx hb dX11_within_5 rfl (lv_at hl 0 rfl) ?_
    refine lv_iload_n hx hb dX11_within_6 rfl (lv_at hl 2 rfl) ?_
    refine lv_icmp_gt (tgt := 14) hx hb dX11_within_7 (by decide) (fun c4 => ?_) (fun c4 => ?_)
    · have f5 : (hi.toInt : Int) < x.toInt := Int32.lt_iff_toInt_lt.mp c4
      refine lv_iconst (v := 0) hx hb dX11_within_14 (by decide) ?_
      exact retZ hx hb hr hlocks (by decide) ⟨_, rfl, Or.inr (⟨rfl, by omega⟩)⟩ hP hD hS (fun _ => 0) (fun _ _ => 0) [] (by decide +kernel) rfl dX11_within_15
    · have f6 : ¬ ((hi.toInt : Int) < x.toInt) := fun h => c4 (Int32.lt_iff_toInt_lt.mpr h)
      refine lv_iconst (v := 1) hx hb dX11_within_10 (by decide) ?_
      refine lv_goto (tgt := 15) hx hb dX11_within_11 (by decide) ?_
      exact retZ hx hb hr hlocks (by decide) ⟨_, rfl, Or.inl ⟨rfl, by omega⟩⟩ hP hD hS (fun _ => 0) (fun _ _ => 0) [] (by decide +kernel) rfl dX11_within_15
def d_X11_isWeek : List Cond := []
def v_X11_isWeek : List Cond := Cond.code yX11_isWeek cX11_isWeek 1 (some .boolean) :: (d_X11_isWeek ++ ([] : List Cond))
theorem gd_X11_isWeek : Gd v_X11_isWeek := gd_mk (by decide +kernel) gd_nil
set_option maxHeartbeats 4000000 in
set_option maxRecDepth 100000 in
theorem c_X11_isWeek (l : Launch) (G : va_G) (cI cJ cZ cD cR cT : ClassId) (x : Int32) (X : Int) (sz : Nat) (hX : x.toInt = X) : Met l yX11_isWeek v_X11_isWeek ({ frames := 1, cells := 0, slots := 0, locals := 40 }) (va_Pc [.int x] (PreW G (tys6 cI cJ cZ cD cR cT) [] sz)) (QW (RI (fun r => (r = 1 ∧ (0 ≤ X ∧ X ≤ 399)) ∨ (r = 0 ∧ (X < 0 ∨ 399 < X)))) G (va_A [] sz) (fun q g => [])) 0 0 (va_A [] sz) := by
  refine metW (cc := cX11_isWeek) (maxL := 1) (ret := (some .boolean)) (by decide) rfl (Nat.le_of_ble_eq_true rfl) ?_
  intro p e s m below meth c A ls hx hb hr hml hown hts hlocks hin hKK hP hD hA hS hl
  have hK := hKK.1
  have hown : s.vm.findClass RX11 = some m.cls := hown
  have hl : lv_has ls 1 [(0, .int x)] := hl
  have hP : va_P G vwCl [] s.heap := hP
  have hD : va_D A [] := hD
  refine lv_iload_n hx hb dX11_isWeek_0 rfl (lv_at hl 0 rfl) ?_
  refine lv_if_lt (tgt := 15) hx hb dX11_isWeek_1 (by decide) (fun c1 => ?_) (fun c1 => ?_)
  · have f2 : (x.toInt : Int) < 0 := Int32.lt_iff_toInt_lt.mp c1
    refine lv_iconst (v := 0) hx hb dX11_isWeek_15 (by decide) ?_
    exact retZ hx hb hr hlocks (by decide) ⟨_, rfl, Or.inr (⟨rfl, by omega⟩)⟩ hP hD hS (fun _ => 0) (fun _ _ => 0) [] (by decide +kernel) rfl dX11_isWeek_16
  · have f3 : ¬ ((x.toInt : Int) < 0) := fun h => c1 (Int32.lt_iff_toInt_lt.mpr h)
    refine lv_iload_n hx hb dX11_isWeek_4 rfl (lv_at hl 0 rfl) ?_
    refine lv_sipush (v := 399) hx hb dX11_isWeek_5 (by decide) ?_
    refine lv_icmp_gt (tgt := 15) hx hb dX11_isWeek_8 (by decide) (fun c4 => ?_) (fun c4 => ?_)
    · have f5 : (399 : Int) < x.toInt := Int32.lt_iff_toInt_lt.mp c4
      refine lv_iconst (v := 0) hx hb dX11_isWeek_15 (by decide) ?_
      exact retZ hx hb hr hlocks (by decide) ⟨_, rfl, Or.inr (⟨rfl, by omega⟩)⟩ hP hD hS (fun _ => 0) (fun _ _ => 0) [] (by decide +kernel) rfl dX11_isWeek_16
    · have f6 : ¬ ((399 : Int) < x.toInt) := fun h => c4 (Int32.lt_iff_toInt_lt.mpr h)
      refine lv_iconst (v := 1) hx hb dX11_isWeek_11 (by decide) ?_
      refine lv_goto (tgt := 16) hx hb dX11_isWeek_12 (by decide) ?_
      exact retZ hx hb hr hlocks (by decide) ⟨_, rfl, Or.inl ⟨rfl, by omega⟩⟩ hP hD hS (fun _ => 0) (fun _ _ => 0) [] (by decide +kernel) rfl dX11_isWeek_16
def d_X11_refuse : List Cond := [Cond.fieldLink RX11 356 "NoRent" "refusal" "I"]
def v_X11_refuse : List Cond := Cond.code yX11_refuse cX11_refuse 2 (some .int) :: (d_X11_refuse ++ (wsX110 ++ ([] : List Cond)))
theorem cm_X11_refuse_0 : ∀ w ∈ wsX110, w ∈ v_X11_refuse := fun _ h => List.mem_cons_of_mem _ (List.mem_append_right _ (List.mem_append_left _ h))
theorem gd_X11_refuse : Gd v_X11_refuse := gd_mk (by decide +kernel) (gd_app gd_X11 gd_nil)
set_option maxHeartbeats 4000000 in
set_option maxRecDepth 100000 in
theorem c_X11_refuse (l : Launch) (G : va_G) (cI cJ cZ cD cR cT : ClassId) (h0 : Nat) (why : Int32) (h0_0 : Nat) (h0_1 : Nat) (h0_2 : Nat) (h0_3 : Nat) (v4 : Int32) (v5 : Int32) (h0_6 : Nat) (h0_7 : Nat) (h0_8 : Nat) (v9 : Int32) (h0_10 : Nat) (h0_11 : Nat) (v12 : Int32) (h0_13 : Nat) (v14 : Int32) (v15 : Int32) (sz : Nat) : Met l yX11_refuse v_X11_refuse ({ frames := 1, cells := 0, slots := 0, locals := 40 }) (va_Pc [.ref h0, .int why] (PreW G (tys6 cI cJ cZ cD cR cT) [(h0, .inr (11, [.ref h0_0, .ref h0_1, .ref h0_2, .ref h0_3, .int v4, .int v5, .ref h0_6, .ref h0_7, .ref h0_8, .int v9, .ref h0_10, .ref h0_11, .int v12, .ref h0_13, .int v14, .int v15]))] sz)) (QW (RI (fun r => r = why)) G (va_A [(h0, .inr (11, [.ref h0_0, .ref h0_1, .ref h0_2, .ref h0_3, .int v4, .int v5, .ref h0_6, .ref h0_7, .ref h0_8, .int v9, .ref h0_10, .ref h0_11, .int v12, .ref h0_13, .int v14, .int v15]))] sz) (fun q g => [(h0, .inr (11, [.ref h0_0, .ref h0_1, .ref h0_2, .ref h0_3, .int v4, .int v5, .ref h0_6, .ref h0_7, .ref h0_8, .int v9, .ref h0_10, .ref h0_11, .int v12, .ref h0_13, .int v14, .int why]))])) 0 0 (va_A [(h0, .inr (11, [.ref h0_0, .ref h0_1, .ref h0_2, .ref h0_3, .int v4, .int v5, .ref h0_6, .ref h0_7, .ref h0_8, .int v9, .ref h0_10, .ref h0_11, .int v12, .ref h0_13, .int v14, .int v15]))] sz) := by
  refine metW (cc := cX11_refuse) (maxL := 2) (ret := (some .int)) (by decide) rfl (Nat.le_of_ble_eq_true rfl) ?_
  intro p e s m below meth c A ls hx hb hr hml hown hts hlocks hin hKK hP hD hA hS hl
  have hK := hKK.1
  have hown : s.vm.findClass RX11 = some m.cls := hown
  have hl : lv_has ls 2 [(0, .ref h0), (1, .int why)] := hl
  have hP : va_P G vwCl [(h0, .inr (11, [.ref h0_0, .ref h0_1, .ref h0_2, .ref h0_3, .int v4, .int v5, .ref h0_6, .ref h0_7, .ref h0_8, .int v9, .ref h0_10, .ref h0_11, .int v12, .ref h0_13, .int v14, .int v15]))] s.heap := hP
  have hD : va_D A [(h0, .inr (11, [.ref h0_0, .ref h0_1, .ref h0_2, .ref h0_3, .int v4, .int v5, .ref h0_6, .ref h0_7, .ref h0_8, .int v9, .ref h0_10, .ref h0_11, .int v12, .ref h0_13, .int v14, .int v15]))] := hD
  refine lv_aload_n hx hb dX11_refuse_0 rfl (lv_at hl 0 rfl) ?_
  refine lv_iload_n hx hb dX11_refuse_1 rfl (lv_at hl 1 rfl) ?_
  refine va_put (D := G) (ci := 11) (v := .int why) (ty := .int) (C := RX11) (T := TX11) (N := 16) hx hb hts cm_X11_refuse_0 tyX11 tyX11_ok nmX11 hown hK hP hD hS 0 rfl rfl 15 (by decide) (hts _ (dmem (j := 0) rfl)) (fun _ h9 => h9) rfl (by decide +kernel) rfl rfl (Nat.le_of_ble_eq_true rfl) dX11_refuse_2 (fun H locs => setW (ws' := [(h0, .inr (11, [.ref h0_0, .ref h0_1, .ref h0_2, .ref h0_3, .int v4, .int v5, .ref h0_6, .ref h0_7, .ref h0_8, .int v9, .ref h0_10, .ref h0_11, .int v12, .ref h0_13, .int v14, .int why]))]) rfl (fun hP hD hS => ?_))
  refine lv_iload_n hx hb dX11_refuse_5 rfl (lv_at hl 1 rfl) ?_
  exact retI hx hb hr hlocks ⟨_, rfl, rfl⟩ hP hD hS (fun _ => 0) (fun _ _ => 0) [0] (by decide +kernel) rfl dX11_refuse_6
def d_X11_accept : List Cond := [Cond.fieldLink RX11 356 "NoRent" "refusal" "I"]
def v_X11_accept : List Cond := Cond.code yX11_accept cX11_accept 2 (some .int) :: (d_X11_accept ++ (wsX110 ++ ([] : List Cond)))
theorem cm_X11_accept_0 : ∀ w ∈ wsX110, w ∈ v_X11_accept := fun _ h => List.mem_cons_of_mem _ (List.mem_append_right _ (List.mem_append_left _ h))
theorem gd_X11_accept : Gd v_X11_accept := gd_mk (by decide +kernel) (gd_app gd_X11 gd_nil)
set_option maxHeartbeats 4000000 in
set_option maxRecDepth 100000 in
theorem c_X11_accept (l : Launch) (G : va_G) (cI cJ cZ cD cR cT : ClassId) (h0 : Nat) (ans : Int32) (h0_0 : Nat) (h0_1 : Nat) (h0_2 : Nat) (h0_3 : Nat) (v4 : Int32) (v5 : Int32) (h0_6 : Nat) (h0_7 : Nat) (h0_8 : Nat) (v9 : Int32) (h0_10 : Nat) (h0_11 : Nat) (v12 : Int32) (h0_13 : Nat) (v14 : Int32) (v15 : Int32) (sz : Nat) : Met l yX11_accept v_X11_accept ({ frames := 1, cells := 0, slots := 0, locals := 40 }) (va_Pc [.ref h0, .int ans] (PreW G (tys6 cI cJ cZ cD cR cT) [(h0, .inr (11, [.ref h0_0, .ref h0_1, .ref h0_2, .ref h0_3, .int v4, .int v5, .ref h0_6, .ref h0_7, .ref h0_8, .int v9, .ref h0_10, .ref h0_11, .int v12, .ref h0_13, .int v14, .int v15]))] sz)) (QW (RI (fun r => r = ans)) G (va_A [(h0, .inr (11, [.ref h0_0, .ref h0_1, .ref h0_2, .ref h0_3, .int v4, .int v5, .ref h0_6, .ref h0_7, .ref h0_8, .int v9, .ref h0_10, .ref h0_11, .int v12, .ref h0_13, .int v14, .int v15]))] sz) (fun q g => [(h0, .inr (11, [.ref h0_0, .ref h0_1, .ref h0_2, .ref h0_3, .int v4, .int v5, .ref h0_6, .ref h0_7, .ref h0_8, .int v9, .ref h0_10, .ref h0_11, .int v12, .ref h0_13, .int v14, .int 0]))])) 0 0 (va_A [(h0, .inr (11, [.ref h0_0, .ref h0_1, .ref h0_2, .ref h0_3, .int v4, .int v5, .ref h0_6, .ref h0_7, .ref h0_8, .int v9, .ref h0_10, .ref h0_11, .int v12, .ref h0_13, .int v14, .int v15]))] sz) := by
  refine metW (cc := cX11_accept) (maxL := 2) (ret := (some .int)) (by decide) rfl (Nat.le_of_ble_eq_true rfl) ?_
  intro p e s m below meth c A ls hx hb hr hml hown hts hlocks hin hKK hP hD hA hS hl
  have hK := hKK.1
  have hown : s.vm.findClass RX11 = some m.cls := hown
  have hl : lv_has ls 2 [(0, .ref h0), (1, .int ans)] := hl
  have hP : va_P G vwCl [(h0, .inr (11, [.ref h0_0, .ref h0_1, .ref h0_2, .ref h0_3, .int v4, .int v5, .ref h0_6, .ref h0_7, .ref h0_8, .int v9, .ref h0_10, .ref h0_11, .int v12, .ref h0_13, .int v14, .int v15]))] s.heap := hP
  have hD : va_D A [(h0, .inr (11, [.ref h0_0, .ref h0_1, .ref h0_2, .ref h0_3, .int v4, .int v5, .ref h0_6, .ref h0_7, .ref h0_8, .int v9, .ref h0_10, .ref h0_11, .int v12, .ref h0_13, .int v14, .int v15]))] := hD
  refine lv_aload_n hx hb dX11_accept_0 rfl (lv_at hl 0 rfl) ?_
  refine lv_iconst (v := 0) hx hb dX11_accept_1 (by decide) ?_
  refine va_put (D := G) (ci := 11) (v := .int 0) (ty := .int) (C := RX11) (T := TX11) (N := 16) hx hb hts cm_X11_accept_0 tyX11 tyX11_ok nmX11 hown hK hP hD hS 0 rfl rfl 15 (by decide) (hts _ (dmem (j := 0) rfl)) (fun _ h9 => h9) rfl (by decide +kernel) rfl rfl (Nat.le_of_ble_eq_true rfl) dX11_accept_2 (fun H locs => setW (ws' := [(h0, .inr (11, [.ref h0_0, .ref h0_1, .ref h0_2, .ref h0_3, .int v4, .int v5, .ref h0_6, .ref h0_7, .ref h0_8, .int v9, .ref h0_10, .ref h0_11, .int v12, .ref h0_13, .int v14, .int 0]))]) rfl (fun hP hD hS => ?_))
  refine lv_iload_n hx hb dX11_accept_5 rfl (lv_at hl 1 rfl) ?_
  exact retI hx hb hr hlocks ⟨_, rfl, rfl⟩ hP hD hS (fun _ => 0) (fun _ _ => 0) [0] (by decide +kernel) rfl dX11_accept_6
def d_X4_has : List Cond := [Cond.fieldLink RX4 39 "NoRent$People" "count" "I"]
def v_X4_has : List Cond := Cond.code yX4_has cX4_has 2 (some .boolean) :: (d_X4_has ++ (wsX40 ++ ([] : List Cond)))
theorem cm_X4_has_0 : ∀ w ∈ wsX40, w ∈ v_X4_has := fun _ h => List.mem_cons_of_mem _ (List.mem_append_right _ (List.mem_append_left _ h))
theorem gd_X4_has : Gd v_X4_has := gd_mk (by decide +kernel) (gd_app gd_X4 gd_nil)
set_option maxHeartbeats 4000000 in
set_option maxRecDepth 100000 in
theorem c_X4_has (l : Launch) (G : va_G) (cI cJ cZ cD cR cT : ClassId) (h0 : Nat) (x : Int32) (h0_1 : Nat) (h0_2 : Nat) (h0_3 : Nat) (h0_4 : Nat) (h0_5 : Nat) (h0_6 : Nat) (h0_7 : Nat) (h0_8 : Nat) (h0_9 : Nat) (sz : Nat) : Met l yX4_has v_X4_has ({ frames := 1, cells := 0, slots := 0, locals := 40 }) (va_Pc [.ref h0, .int x] (PreW G (tys6 cI cJ cZ cD cR cT) [(h0, .inr (4, [.int 0, .ref h0_1, .ref h0_2, .ref h0_3, .ref h0_4, .ref h0_5, .ref h0_6, .ref h0_7, .ref h0_8, .ref h0_9]))] sz)) (QW (RI (fun r => r = 0)) G (va_A [(h0, .inr (4, [.int 0, .ref h0_1, .ref h0_2, .ref h0_3, .ref h0_4, .ref h0_5, .ref h0_6, .ref h0_7, .ref h0_8, .ref h0_9]))] sz) (fun q g => [(h0, .inr (4, [.int 0, .ref h0_1, .ref h0_2, .ref h0_3, .ref h0_4, .ref h0_5, .ref h0_6, .ref h0_7, .ref h0_8, .ref h0_9]))])) 0 0 (va_A [(h0, .inr (4, [.int 0, .ref h0_1, .ref h0_2, .ref h0_3, .ref h0_4, .ref h0_5, .ref h0_6, .ref h0_7, .ref h0_8, .ref h0_9]))] sz) := by
  refine metW (cc := cX4_has) (maxL := 2) (ret := (some .boolean)) (by decide) rfl (Nat.le_of_ble_eq_true rfl) ?_
  intro p e s m below meth c A ls hx hb hr hml hown hts hlocks hin hKK hP hD hA hS hl
  have hK := hKK.1
  have hown : s.vm.findClass RX4 = some m.cls := hown
  have hl : lv_has ls 2 [(0, .ref h0), (1, .int x)] := hl
  have hP : va_P G vwCl [(h0, .inr (4, [.int 0, .ref h0_1, .ref h0_2, .ref h0_3, .ref h0_4, .ref h0_5, .ref h0_6, .ref h0_7, .ref h0_8, .ref h0_9]))] s.heap := hP
  have hD : va_D A [(h0, .inr (4, [.int 0, .ref h0_1, .ref h0_2, .ref h0_3, .ref h0_4, .ref h0_5, .ref h0_6, .ref h0_7, .ref h0_8, .ref h0_9]))] := hD
  refine lv_iload_n hx hb dX4_has_0 rfl (lv_at hl 1 rfl) ?_
  refine lv_if_lt (tgt := 16) hx hb dX4_has_1 (by decide) (fun c1 => ?_) (fun c1 => ?_)
  · have f2 : (x.toInt : Int) < 0 := Int32.lt_iff_toInt_lt.mp c1
    refine lv_iconst (v := 0) hx hb dX4_has_16 (by decide) ?_
    exact retZ hx hb hr hlocks (by decide) ⟨_, rfl, rfl⟩ hP hD hS (fun _ => 0) (fun _ _ => 0) [0] (by decide +kernel) rfl dX4_has_17
  · have f3 : ¬ ((x.toInt : Int) < 0) := fun h => c1 (Int32.lt_iff_toInt_lt.mpr h)
    refine lv_iload_n hx hb dX4_has_4 rfl (lv_at hl 1 rfl) ?_
    refine lv_aload_n hx hb dX4_has_5 rfl (lv_at hl 0 rfl) ?_
    refine va_get (D := G) (ci := 4) (v := .int 0) (C := RX4) (T := TX4) (N := 10) hx hb hts cm_X4_has_0 hown hK hP 0 rfl rfl 0 (by decide) (hts _ (dmem (j := 0) rfl)) (fun _ h9 => h9) rfl dX4_has_6 ?_
    refine lv_icmp_ge (tgt := 16) hx hb dX4_has_9 (by decide) (fun c4 => ?_) (fun c4 => ?_)
    · have f5 : (0 : Int) ≤ x.toInt := Int32.le_iff_toInt_le.mp c4
      refine lv_iconst (v := 0) hx hb dX4_has_16 (by decide) ?_
      exact retZ hx hb hr hlocks (by decide) ⟨_, rfl, rfl⟩ hP hD hS (fun _ => 0) (fun _ _ => 0) [0] (by decide +kernel) rfl dX4_has_17
    · have f6 : ¬ ((0 : Int) ≤ x.toInt) := fun h => c4 (Int32.le_iff_toInt_le.mpr h)
      exfalso; omega
def d_X1_has : List Cond := [Cond.fieldLink RX1 46 "NoRent$Land" "count" "I"]
def v_X1_has : List Cond := Cond.code yX1_has cX1_has 2 (some .boolean) :: (d_X1_has ++ (wsX10 ++ ([] : List Cond)))
theorem cm_X1_has_0 : ∀ w ∈ wsX10, w ∈ v_X1_has := fun _ h => List.mem_cons_of_mem _ (List.mem_append_right _ (List.mem_append_left _ h))
theorem gd_X1_has : Gd v_X1_has := gd_mk (by decide +kernel) (gd_app gd_X1 gd_nil)
set_option maxHeartbeats 4000000 in
set_option maxRecDepth 100000 in
theorem c_X1_has (l : Launch) (G : va_G) (cI cJ cZ cD cR cT : ClassId) (h0 : Nat) (x : Int32) (h0_1 : Nat) (h0_2 : Nat) (h0_3 : Nat) (h0_4 : Nat) (h0_5 : Nat) (h0_6 : Nat) (h0_7 : Nat) (h0_9 : Nat) (h0_10 : Nat) (h0_11 : Nat) (sz : Nat) : Met l yX1_has v_X1_has ({ frames := 1, cells := 0, slots := 0, locals := 40 }) (va_Pc [.ref h0, .int x] (PreW G (tys6 cI cJ cZ cD cR cT) [(h0, .inr (1, [.int 0, .ref h0_1, .ref h0_2, .ref h0_3, .ref h0_4, .ref h0_5, .ref h0_6, .ref h0_7, .int 0, .ref h0_9, .ref h0_10, .ref h0_11, .int (-1), .long 0, .long 0]))] sz)) (QW (RI (fun r => r = 0)) G (va_A [(h0, .inr (1, [.int 0, .ref h0_1, .ref h0_2, .ref h0_3, .ref h0_4, .ref h0_5, .ref h0_6, .ref h0_7, .int 0, .ref h0_9, .ref h0_10, .ref h0_11, .int (-1), .long 0, .long 0]))] sz) (fun q g => [(h0, .inr (1, [.int 0, .ref h0_1, .ref h0_2, .ref h0_3, .ref h0_4, .ref h0_5, .ref h0_6, .ref h0_7, .int 0, .ref h0_9, .ref h0_10, .ref h0_11, .int (-1), .long 0, .long 0]))])) 0 0 (va_A [(h0, .inr (1, [.int 0, .ref h0_1, .ref h0_2, .ref h0_3, .ref h0_4, .ref h0_5, .ref h0_6, .ref h0_7, .int 0, .ref h0_9, .ref h0_10, .ref h0_11, .int (-1), .long 0, .long 0]))] sz) := by
  refine metW (cc := cX1_has) (maxL := 2) (ret := (some .boolean)) (by decide) rfl (Nat.le_of_ble_eq_true rfl) ?_
  intro p e s m below meth c A ls hx hb hr hml hown hts hlocks hin hKK hP hD hA hS hl
  have hK := hKK.1
  have hown : s.vm.findClass RX1 = some m.cls := hown
  have hl : lv_has ls 2 [(0, .ref h0), (1, .int x)] := hl
  have hP : va_P G vwCl [(h0, .inr (1, [.int 0, .ref h0_1, .ref h0_2, .ref h0_3, .ref h0_4, .ref h0_5, .ref h0_6, .ref h0_7, .int 0, .ref h0_9, .ref h0_10, .ref h0_11, .int (-1), .long 0, .long 0]))] s.heap := hP
  have hD : va_D A [(h0, .inr (1, [.int 0, .ref h0_1, .ref h0_2, .ref h0_3, .ref h0_4, .ref h0_5, .ref h0_6, .ref h0_7, .int 0, .ref h0_9, .ref h0_10, .ref h0_11, .int (-1), .long 0, .long 0]))] := hD
  refine lv_iload_n hx hb dX1_has_0 rfl (lv_at hl 1 rfl) ?_
  refine lv_if_lt (tgt := 16) hx hb dX1_has_1 (by decide) (fun c1 => ?_) (fun c1 => ?_)
  · have f2 : (x.toInt : Int) < 0 := Int32.lt_iff_toInt_lt.mp c1
    refine lv_iconst (v := 0) hx hb dX1_has_16 (by decide) ?_
    exact retZ hx hb hr hlocks (by decide) ⟨_, rfl, rfl⟩ hP hD hS (fun _ => 0) (fun _ _ => 0) [0] (by decide +kernel) rfl dX1_has_17
  · have f3 : ¬ ((x.toInt : Int) < 0) := fun h => c1 (Int32.lt_iff_toInt_lt.mpr h)
    refine lv_iload_n hx hb dX1_has_4 rfl (lv_at hl 1 rfl) ?_
    refine lv_aload_n hx hb dX1_has_5 rfl (lv_at hl 0 rfl) ?_
    refine va_get (D := G) (ci := 1) (v := .int 0) (C := RX1) (T := TX1) (N := 15) hx hb hts cm_X1_has_0 hown hK hP 0 rfl rfl 0 (by decide) (hts _ (dmem (j := 0) rfl)) (fun _ h9 => h9) rfl dX1_has_6 ?_
    refine lv_icmp_ge (tgt := 16) hx hb dX1_has_9 (by decide) (fun c4 => ?_) (fun c4 => ?_)
    · have f5 : (0 : Int) ≤ x.toInt := Int32.le_iff_toInt_le.mp c4
      refine lv_iconst (v := 0) hx hb dX1_has_16 (by decide) ?_
      exact retZ hx hb hr hlocks (by decide) ⟨_, rfl, rfl⟩ hP hD hS (fun _ => 0) (fun _ _ => 0) [0] (by decide +kernel) rfl dX1_has_17
    · have f6 : ¬ ((0 : Int) ≤ x.toInt) := fun h => c4 (Int32.le_iff_toInt_le.mpr h)
      exfalso; omega
def d_X1_hasEstate : List Cond := [Cond.fieldLink RX1 49 "NoRent$Land" "estates" "I"]
def v_X1_hasEstate : List Cond := Cond.code yX1_hasEstate cX1_hasEstate 2 (some .boolean) :: (d_X1_hasEstate ++ (wsX10 ++ ([] : List Cond)))
theorem cm_X1_hasEstate_0 : ∀ w ∈ wsX10, w ∈ v_X1_hasEstate := fun _ h => List.mem_cons_of_mem _ (List.mem_append_right _ (List.mem_append_left _ h))
theorem gd_X1_hasEstate : Gd v_X1_hasEstate := gd_mk (by decide +kernel) (gd_app gd_X1 gd_nil)
set_option maxHeartbeats 4000000 in
set_option maxRecDepth 100000 in
theorem c_X1_hasEstate (l : Launch) (G : va_G) (cI cJ cZ cD cR cT : ClassId) (h0 : Nat) (x : Int32) (h0_1 : Nat) (h0_2 : Nat) (h0_3 : Nat) (h0_4 : Nat) (h0_5 : Nat) (h0_6 : Nat) (h0_7 : Nat) (h0_9 : Nat) (h0_10 : Nat) (h0_11 : Nat) (sz : Nat) : Met l yX1_hasEstate v_X1_hasEstate ({ frames := 1, cells := 0, slots := 0, locals := 40 }) (va_Pc [.ref h0, .int x] (PreW G (tys6 cI cJ cZ cD cR cT) [(h0, .inr (1, [.int 0, .ref h0_1, .ref h0_2, .ref h0_3, .ref h0_4, .ref h0_5, .ref h0_6, .ref h0_7, .int 0, .ref h0_9, .ref h0_10, .ref h0_11, .int (-1), .long 0, .long 0]))] sz)) (QW (RI (fun r => r = 0)) G (va_A [(h0, .inr (1, [.int 0, .ref h0_1, .ref h0_2, .ref h0_3, .ref h0_4, .ref h0_5, .ref h0_6, .ref h0_7, .int 0, .ref h0_9, .ref h0_10, .ref h0_11, .int (-1), .long 0, .long 0]))] sz) (fun q g => [(h0, .inr (1, [.int 0, .ref h0_1, .ref h0_2, .ref h0_3, .ref h0_4, .ref h0_5, .ref h0_6, .ref h0_7, .int 0, .ref h0_9, .ref h0_10, .ref h0_11, .int (-1), .long 0, .long 0]))])) 0 0 (va_A [(h0, .inr (1, [.int 0, .ref h0_1, .ref h0_2, .ref h0_3, .ref h0_4, .ref h0_5, .ref h0_6, .ref h0_7, .int 0, .ref h0_9, .ref h0_10, .ref h0_11, .int (-1), .long 0, .long 0]))] sz) := by
  refine metW (cc := cX1_hasEstate) (maxL := 2) (ret := (some .boolean)) (by decide) rfl (Nat.le_of_ble_eq_true rfl) ?_
  intro p e s m below meth c A ls hx hb hr hml hown hts hlocks hin hKK hP hD hA hS hl
  have hK := hKK.1
  have hown : s.vm.findClass RX1 = some m.cls := hown
  have hl : lv_has ls 2 [(0, .ref h0), (1, .int x)] := hl
  have hP : va_P G vwCl [(h0, .inr (1, [.int 0, .ref h0_1, .ref h0_2, .ref h0_3, .ref h0_4, .ref h0_5, .ref h0_6, .ref h0_7, .int 0, .ref h0_9, .ref h0_10, .ref h0_11, .int (-1), .long 0, .long 0]))] s.heap := hP
  have hD : va_D A [(h0, .inr (1, [.int 0, .ref h0_1, .ref h0_2, .ref h0_3, .ref h0_4, .ref h0_5, .ref h0_6, .ref h0_7, .int 0, .ref h0_9, .ref h0_10, .ref h0_11, .int (-1), .long 0, .long 0]))] := hD
  refine lv_iload_n hx hb dX1_hasEstate_0 rfl (lv_at hl 1 rfl) ?_
  refine lv_if_lt (tgt := 16) hx hb dX1_hasEstate_1 (by decide) (fun c1 => ?_) (fun c1 => ?_)
  · have f2 : (x.toInt : Int) < 0 := Int32.lt_iff_toInt_lt.mp c1
    refine lv_iconst (v := 0) hx hb dX1_hasEstate_16 (by decide) ?_
    exact retZ hx hb hr hlocks (by decide) ⟨_, rfl, rfl⟩ hP hD hS (fun _ => 0) (fun _ _ => 0) [0] (by decide +kernel) rfl dX1_hasEstate_17
  · have f3 : ¬ ((x.toInt : Int) < 0) := fun h => c1 (Int32.lt_iff_toInt_lt.mpr h)
    refine lv_iload_n hx hb dX1_hasEstate_4 rfl (lv_at hl 1 rfl) ?_
    refine lv_aload_n hx hb dX1_hasEstate_5 rfl (lv_at hl 0 rfl) ?_
    refine va_get (D := G) (ci := 1) (v := .int 0) (C := RX1) (T := TX1) (N := 15) hx hb hts cm_X1_hasEstate_0 hown hK hP 0 rfl rfl 8 (by decide) (hts _ (dmem (j := 0) rfl)) (fun _ h9 => h9) rfl dX1_hasEstate_6 ?_
    refine lv_icmp_ge (tgt := 16) hx hb dX1_hasEstate_9 (by decide) (fun c4 => ?_) (fun c4 => ?_)
    · have f5 : (0 : Int) ≤ x.toInt := Int32.le_iff_toInt_le.mp c4
      refine lv_iconst (v := 0) hx hb dX1_hasEstate_16 (by decide) ?_
      exact retZ hx hb hr hlocks (by decide) ⟨_, rfl, rfl⟩ hP hD hS (fun _ => 0) (fun _ _ => 0) [0] (by decide +kernel) rfl dX1_hasEstate_17
    · have f6 : ¬ ((0 : Int) ≤ x.toInt) := fun h => c4 (Int32.le_iff_toInt_le.mpr h)
      exfalso; omega
def d_X2_has : List Cond := [Cond.fieldLink RX2 24 "NoRent$Law" "count" "I"]
def v_X2_has : List Cond := Cond.code yX2_has cX2_has 4 (some .boolean) :: (d_X2_has ++ (wsX20 ++ ([] : List Cond)))
theorem cm_X2_has_0 : ∀ w ∈ wsX20, w ∈ v_X2_has := fun _ h => List.mem_cons_of_mem _ (List.mem_append_right _ (List.mem_append_left _ h))
theorem gd_X2_has : Gd v_X2_has := gd_mk (by decide +kernel) (gd_app gd_X2 gd_nil)
set_option maxHeartbeats 4000000 in
set_option maxRecDepth 100000 in
theorem c_X2_has (l : Launch) (G : va_G) (cI cJ cZ cD cR cT : ClassId) (h0 : Nat) (x : Int32) (y : Int32) (h0_1 : Nat) (h0_2 : Nat) (h0_3 : Nat) (sz : Nat) : Met l yX2_has v_X2_has ({ frames := 1, cells := 0, slots := 0, locals := 40 }) (va_Pc [.ref h0, .int x, .int y] (PreW G (tys6 cI cJ cZ cD cR cT) [(h0, .inr (2, [.int 0, .ref h0_1, .ref h0_2, .ref h0_3]))] sz)) (QW (RI (fun r => r = 0)) G (va_A [(h0, .inr (2, [.int 0, .ref h0_1, .ref h0_2, .ref h0_3]))] sz) (fun q g => [(h0, .inr (2, [.int 0, .ref h0_1, .ref h0_2, .ref h0_3]))])) 0 0 (va_A [(h0, .inr (2, [.int 0, .ref h0_1, .ref h0_2, .ref h0_3]))] sz) := by
  refine metW (cc := cX2_has) (maxL := 4) (ret := (some .boolean)) (by decide) rfl (Nat.le_of_ble_eq_true rfl) ?_
  intro p e s m below meth c A ls hx hb hr hml hown hts hlocks hin hKK hP hD hA hS hl
  have hK := hKK.1
  have hown : s.vm.findClass RX2 = some m.cls := hown
  have hl : lv_has ls 4 [(0, .ref h0), (1, .int x), (2, .int y)] := hl
  have hP : va_P G vwCl [(h0, .inr (2, [.int 0, .ref h0_1, .ref h0_2, .ref h0_3]))] s.heap := hP
  have hD : va_D A [(h0, .inr (2, [.int 0, .ref h0_1, .ref h0_2, .ref h0_3]))] := hD
  refine lv_iload_n hx hb dX2_has_0 rfl (lv_at hl 1 rfl) ?_
  refine lv_if_lt (tgt := 12) hx hb dX2_has_1 (by decide) (fun c1 => ?_) (fun c1 => ?_)
  · have f2 : (x.toInt : Int) < 0 := Int32.lt_iff_toInt_lt.mp c1
    refine lv_iconst (v := 0) hx hb dX2_has_12 (by decide) ?_
    exact retZ hx hb hr hlocks (by decide) ⟨_, rfl, rfl⟩ hP hD hS (fun _ => 0) (fun _ _ => 0) [0] (by decide +kernel) rfl dX2_has_13
  · have f3 : ¬ ((x.toInt : Int) < 0) := fun h => c1 (Int32.lt_iff_toInt_lt.mpr h)
    refine lv_iload_n hx hb dX2_has_4 rfl (lv_at hl 1 rfl) ?_
    refine lv_aload_n hx hb dX2_has_5 rfl (lv_at hl 0 rfl) ?_
    refine va_get (D := G) (ci := 2) (v := .int 0) (C := RX2) (T := TX2) (N := 4) hx hb hts cm_X2_has_0 hown hK hP 0 rfl rfl 0 (by decide) (hts _ (dmem (j := 0) rfl)) (fun _ h9 => h9) rfl dX2_has_6 ?_
    refine lv_icmp_lt (tgt := 14) hx hb dX2_has_9 (by decide) (fun c4 => ?_) (fun c4 => ?_)
    · have f5 : (x.toInt : Int) < 0 := Int32.lt_iff_toInt_lt.mp c4
      exfalso; omega
    · have f6 : ¬ ((x.toInt : Int) < 0) := fun h => c4 (Int32.lt_iff_toInt_lt.mpr h)
      refine lv_iconst (v := 0) hx hb dX2_has_12 (by decide) ?_
      exact retZ hx hb hr hlocks (by decide) ⟨_, rfl, rfl⟩ hP hD hS (fun _ => 0) (fun _ _ => 0) [0] (by decide +kernel) rfl dX2_has_13
def d_X11_canGo : List Cond := [Cond.methodLink RX11 54 yX11_within, Cond.static yX11_within, Cond.initialized RX11, Cond.fieldLink RX11 12 "NoRent" "county" "LNoRent$County;", Cond.fieldLink RX11 255 "NoRent$County" "now" "I"]
def v_X11_canGo : List Cond := Cond.code yX11_canGo cX11_canGo 2 (some .boolean) :: (d_X11_canGo ++ (v_X11_within ++ (wsX110 ++ (wsX00 ++ ([] : List Cond)))))
theorem cm_X11_canGo_0 : ∀ w ∈ v_X11_within, w ∈ v_X11_canGo := fun _ h => List.mem_cons_of_mem _ (List.mem_append_right _ (List.mem_append_left _ h))
theorem cm_X11_canGo_1 : ∀ w ∈ wsX110, w ∈ v_X11_canGo := fun _ h => List.mem_cons_of_mem _ (List.mem_append_right _ (List.mem_append_right _ (List.mem_append_left _ h)))
theorem cm_X11_canGo_2 : ∀ w ∈ wsX00, w ∈ v_X11_canGo := fun _ h => List.mem_cons_of_mem _ (List.mem_append_right _ (List.mem_append_right _ (List.mem_append_right _ (List.mem_append_left _ h))))
theorem gd_X11_canGo : Gd v_X11_canGo := gd_mk (by decide +kernel) (gd_app gd_X11_within (gd_app gd_X11 (gd_app gd_X0 gd_nil)))
set_option maxRecDepth 20000 in
theorem gv_X11_canGo_54_X11_within : GoodIn v_X11_canGo (va_wsS RX11 54 yX11_within v_X11_within) := goodIn_app (goodIn_of _ (by decide +kernel)) (gi cm_X11_canGo_0 gd_X11_within)
set_option maxHeartbeats 4000000 in
set_option maxRecDepth 100000 in
theorem c_X11_canGo (l : Launch) (G : va_G) (cI cJ cZ cD cR cT : ClassId) (h0 : Nat) (x : Int32) (h0_0 : Nat) (h0_1 : Nat) (h0_2 : Nat) (h0_3 : Nat) (h0_6 : Nat) (h0_7 : Nat) (h0_8 : Nat) (h0_10 : Nat) (h0_11 : Nat) (h0_13 : Nat) (h0_0_0 : Nat) (h0_0_1 : Nat) (h0_0_2 : Nat) (h0_0_3 : Nat) (h0_0_4 : Nat) (h0_0_5 : Nat) (h0_0_8 : Nat) (h0_0_15 : Nat) (h0_0_16 : Nat) (X : Int) (sz : Nat) (hX : x.toInt = X) : Met l yX11_canGo v_X11_canGo ({ frames := 2, cells := 0, slots := 0, locals := 62 }) (va_Pc [.ref h0, .int x] (PreW G (tys6 cI cJ cZ cD cR cT) [(h0, .inr (11, [.ref h0_0, .ref h0_1, .ref h0_2, .ref h0_3, .int 0, .int 0, .ref h0_6, .ref h0_7, .ref h0_8, .int 0, .ref h0_10, .ref h0_11, .int 0, .ref h0_13, .int 0, .int 0])), (h0_0, .inr (0, [.ref h0_0_0, .ref h0_0_1, .ref h0_0_2, .ref h0_0_3, .ref h0_0_4, .ref h0_0_5, .int 0, .int 0, .ref h0_0_8, .int 0, .int 0, .int 0, .int 0, .long 0, .int 0, .ref h0_0_15, .ref h0_0_16]))] sz)) (QW (RI (fun r => (r = 1 ∧ (1 ≤ X ∧ X ≤ 104)) ∨ (r = 0 ∧ (X < 1 ∨ 104 < X)))) G (va_A [(h0, .inr (11, [.ref h0_0, .ref h0_1, .ref h0_2, .ref h0_3, .int 0, .int 0, .ref h0_6, .ref h0_7, .ref h0_8, .int 0, .ref h0_10, .ref h0_11, .int 0, .ref h0_13, .int 0, .int 0])), (h0_0, .inr (0, [.ref h0_0_0, .ref h0_0_1, .ref h0_0_2, .ref h0_0_3, .ref h0_0_4, .ref h0_0_5, .int 0, .int 0, .ref h0_0_8, .int 0, .int 0, .int 0, .int 0, .long 0, .int 0, .ref h0_0_15, .ref h0_0_16]))] sz) (fun q g => [(h0, .inr (11, [.ref h0_0, .ref h0_1, .ref h0_2, .ref h0_3, .int 0, .int 0, .ref h0_6, .ref h0_7, .ref h0_8, .int 0, .ref h0_10, .ref h0_11, .int 0, .ref h0_13, .int 0, .int 0])), (h0_0, .inr (0, [.ref h0_0_0, .ref h0_0_1, .ref h0_0_2, .ref h0_0_3, .ref h0_0_4, .ref h0_0_5, .int 0, .int 0, .ref h0_0_8, .int 0, .int 0, .int 0, .int 0, .long 0, .int 0, .ref h0_0_15, .ref h0_0_16]))])) 0 0 (va_A [(h0, .inr (11, [.ref h0_0, .ref h0_1, .ref h0_2, .ref h0_3, .int 0, .int 0, .ref h0_6, .ref h0_7, .ref h0_8, .int 0, .ref h0_10, .ref h0_11, .int 0, .ref h0_13, .int 0, .int 0])), (h0_0, .inr (0, [.ref h0_0_0, .ref h0_0_1, .ref h0_0_2, .ref h0_0_3, .ref h0_0_4, .ref h0_0_5, .int 0, .int 0, .ref h0_0_8, .int 0, .int 0, .int 0, .int 0, .long 0, .int 0, .ref h0_0_15, .ref h0_0_16]))] sz) := by
  refine metW (cc := cX11_canGo) (maxL := 2) (ret := (some .boolean)) (by decide) rfl (Nat.le_of_ble_eq_true rfl) ?_
  intro p e s m below meth c A ls hx hb hr hml hown hts hlocks hin hKK hP hD hA hS hl
  have hK := hKK.1
  have hown : s.vm.findClass RX11 = some m.cls := hown
  have hl : lv_has ls 2 [(0, .ref h0), (1, .int x)] := hl
  have hP : va_P G vwCl [(h0, .inr (11, [.ref h0_0, .ref h0_1, .ref h0_2, .ref h0_3, .int 0, .int 0, .ref h0_6, .ref h0_7, .ref h0_8, .int 0, .ref h0_10, .ref h0_11, .int 0, .ref h0_13, .int 0, .int 0])), (h0_0, .inr (0, [.ref h0_0_0, .ref h0_0_1, .ref h0_0_2, .ref h0_0_3, .ref h0_0_4, .ref h0_0_5, .int 0, .int 0, .ref h0_0_8, .int 0, .int 0, .int 0, .int 0, .long 0, .int 0, .ref h0_0_15, .ref h0_0_16]))] s.heap := hP
  have hD : va_D A [(h0, .inr (11, [.ref h0_0, .ref h0_1, .ref h0_2, .ref h0_3, .int 0, .int 0, .ref h0_6, .ref h0_7, .ref h0_8, .int 0, .ref h0_10, .ref h0_11, .int 0, .ref h0_13, .int 0, .int 0])), (h0_0, .inr (0, [.ref h0_0_0, .ref h0_0_1, .ref h0_0_2, .ref h0_0_3, .ref h0_0_4, .ref h0_0_5, .int 0, .int 0, .ref h0_0_8, .int 0, .int 0, .int 0, .int 0, .long 0, .int 0, .ref h0_0_15, .ref h0_0_16]))] := hD
  refine lv_iload_n hx hb dX11_canGo_0 rfl (lv_at hl 1 rfl) ?_
  refine lv_iconst (v := 1) hx hb dX11_canGo_1 (by decide) ?_
  refine lv_bipush (v := 104) hx hb dX11_canGo_2 (by decide) ?_
  refine goS (As := [.int x, .int 1, .int 104]) (rest := []) (wr := [(h0, .inr (11, [.ref h0_0, .ref h0_1, .ref h0_2, .ref h0_3, .int 0, .int 0, .ref h0_6, .ref h0_7, .ref h0_8, .int 0, .ref h0_10, .ref h0_11, .int 0, .ref h0_13, .int 0, .int 0])), (h0_0, .inr (0, [.ref h0_0_0, .ref h0_0_1, .ref h0_0_2, .ref h0_0_3, .ref h0_0_4, .ref h0_0_5, .int 0, .int 0, .ref h0_0_8, .int 0, .int 0, .int 0, .int 0, .long 0, .int 0, .ref h0_0_15, .ref h0_0_16]))]) ⟨hx, hb, hml, hown, hts⟩ (c_X11_within l G cI cJ cZ cD cR cT x 1 104 x.toInt 1 104 _ rfl (by decide) (by decide)) (va_cwS 3 hts gv_X11_canGo_54_X11_within rfl rfl rfl (by decide +kernel) ⟨Nat.le_of_ble_eq_true rfl, Nat.le_of_ble_eq_true rfl⟩) hKK hP hD hS hA [] [0, 1] rfl rfl (by decide +kernel) (by decide +kernel) (by decide +kernel) rfl hl.1 rfl (lv_room (Nat.le_of_ble_eq_true rfl)) dX11_canGo_4 ⟨Nat.le_of_ble_eq_true rfl, Nat.le_of_ble_eq_true rfl⟩ (fun v2 q1 gq1 H locs hv2 => appW (ws' := [(h0, .inr (11, [.ref h0_0, .ref h0_1, .ref h0_2, .ref h0_3, .int 0, .int 0, .ref h0_6, .ref h0_7, .ref h0_8, .int 0, .ref h0_10, .ref h0_11, .int 0, .ref h0_13, .int 0, .int 0])), (h0_0, .inr (0, [.ref h0_0_0, .ref h0_0_1, .ref h0_0_2, .ref h0_0_3, .ref h0_0_4, .ref h0_0_5, .int 0, .int 0, .ref h0_0_8, .int 0, .int 0, .int 0, .int 0, .long 0, .int 0, .ref h0_0_15, .ref h0_0_16]))]) rfl (fun hP hD hS => ?_))
  obtain ⟨_, rfl, h4⟩ := hv2
  rcases h4 with ⟨rfl, h4⟩ | ⟨rfl, h4⟩
  · refine lv_if_eq (tgt := 29) hx hb dX11_canGo_7 (by decide) (fun c => absurd c (by decide)) (fun _ => ?_)
    refine lv_aload_n hx hb dX11_canGo_10 rfl (lv_at hl 0 rfl) ?_
    refine va_get (D := G) (ci := 11) (v := .ref h0_0) (C := RX11) (T := TX11) (N := 16) hx hb hts cm_X11_canGo_1 hown hK hP 0 rfl rfl 0 (by decide) (hts _ (dmem (j := 3) rfl)) (fun _ h9 => h9) rfl dX11_canGo_11 ?_
    refine va_get (D := G) (ci := 0) (v := .int 0) (C := RX0) (T := TX0) (N := 17) hx hb hts cm_X11_canGo_2 hown hK hP 1 rfl rfl 6 (by decide) (hts _ (dmem (j := 4) rfl)) (fun _ h9 => h9) rfl dX11_canGo_14 ?_
    refine lv_iload_n hx hb dX11_canGo_17 rfl (lv_at hl 1 rfl) ?_
    refine lv_iadd hx hb dX11_canGo_18 ?_
    refine lv_topi (fun x5 ex5 => ?_)
    obtain rfl : x = x5 := (ex5.trans (by simp)).symm
    refine lv_sipush (v := 399) hx hb dX11_canGo_19 (by decide) ?_
    refine lv_icmp_gt (tgt := 29) hx hb dX11_canGo_22 (by decide) (fun c6 => ?_) (fun c6 => ?_)
    · have f7 : (399 : Int) < x.toInt := Int32.lt_iff_toInt_lt.mp c6
      exfalso; omega
    · have f8 : ¬ ((399 : Int) < x.toInt) := fun h => c6 (Int32.lt_iff_toInt_lt.mpr h)
      refine lv_iconst (v := 1) hx hb dX11_canGo_25 (by decide) ?_
      refine lv_goto (tgt := 30) hx hb dX11_canGo_26 (by decide) ?_
      exact retZ hx hb hr hlocks (by decide) ⟨_, rfl, Or.inl ⟨rfl, by omega⟩⟩ hP hD hS (fun _ => 0) (fun _ _ => 0) [0, 1] (by decide +kernel) rfl dX11_canGo_30
  · refine lv_if_eq (tgt := 29) hx hb dX11_canGo_7 (by decide) (fun _ => ?_) (fun c => absurd c (by decide))
    refine lv_iconst (v := 0) hx hb dX11_canGo_29 (by decide) ?_
    exact retZ hx hb hr hlocks (by decide) ⟨_, rfl, Or.inr (⟨rfl, by omega⟩)⟩ hP hD hS (fun _ => 0) (fun _ _ => 0) [0, 1] (by decide +kernel) rfl dX11_canGo_30
def d_X4_add : List Cond := [Cond.fieldLink RX4 39 "NoRent$People" "count" "I", Cond.fieldLink RX4 9 "NoRent$People" "house" "[I", Cond.fieldLink RX4 15 "NoRent$People" "coin" "[I", Cond.fieldLink RX4 18 "NoRent$People" "fear" "[I", Cond.fieldLink RX4 21 "NoRent$People" "heeds" "[I", Cond.fieldLink RX4 24 "NoRent$People" "sacks" "[I", Cond.fieldLink RX4 27 "NoRent$People" "state" "[I", Cond.fieldLink RX4 30 "NoRent$People" "outSince" "[I", Cond.fieldLink RX4 33 "NoRent$People" "banned" "[I"]
def v_X4_add : List Cond := Cond.code yX4_add cX4_add 5 (some .int) :: (d_X4_add ++ (wsX40 ++ ([] : List Cond)))
theorem cm_X4_add_0 : ∀ w ∈ wsX40, w ∈ v_X4_add := fun _ h => List.mem_cons_of_mem _ (List.mem_append_right _ (List.mem_append_left _ h))
theorem gd_X4_add : Gd v_X4_add := gd_mk (by decide +kernel) (gd_app gd_X4 gd_nil)
set_option maxHeartbeats 4000000 in
set_option maxRecDepth 100000 in
theorem c_X4_add (l : Launch) (G : va_G) (cI cJ cZ cD cR cT : ClassId) (h0 : Nat) (u1 : Int32) (u2 : Int32) (u3 : Int32) (h0_1 : Nat) (h0_2 : Nat) (h0_3 : Nat) (h0_4 : Nat) (h0_5 : Nat) (h0_6 : Nat) (h0_7 : Nat) (h0_8 : Nat) (h0_9 : Nat) (sz : Nat) : Met l yX4_add v_X4_add ({ frames := 1, cells := 0, slots := 0, locals := 40 }) (va_Pc [.ref h0, .int u1, .int u2, .int u3] (PreW G (tys6 cI cJ cZ cD cR cT) [(h0, .inr (4, [.int 0, .ref h0_1, .ref h0_2, .ref h0_3, .ref h0_4, .ref h0_5, .ref h0_6, .ref h0_7, .ref h0_8, .ref h0_9])), (h0_1, .inl (cI, 40, .inl (fun _ => 0))), (h0_2, .inl (cI, 40, .inl (fun _ => 0))), (h0_3, .inl (cI, 40, .inl (fun _ => 0))), (h0_4, .inl (cI, 40, .inl (fun _ => 0))), (h0_5, .inl (cI, 40, .inl (fun _ => 0))), (h0_6, .inl (cI, 40, .inl (fun _ => 0))), (h0_7, .inl (cI, 40, .inl (fun _ => 0))), (h0_8, .inl (cI, 40, .inl (fun _ => 0)))] sz)) (QW (RI (fun r => r = 0)) G (va_A [(h0, .inr (4, [.int 0, .ref h0_1, .ref h0_2, .ref h0_3, .ref h0_4, .ref h0_5, .ref h0_6, .ref h0_7, .ref h0_8, .ref h0_9])), (h0_1, .inl (cI, 40, .inl (fun _ => 0))), (h0_2, .inl (cI, 40, .inl (fun _ => 0))), (h0_3, .inl (cI, 40, .inl (fun _ => 0))), (h0_4, .inl (cI, 40, .inl (fun _ => 0))), (h0_5, .inl (cI, 40, .inl (fun _ => 0))), (h0_6, .inl (cI, 40, .inl (fun _ => 0))), (h0_7, .inl (cI, 40, .inl (fun _ => 0))), (h0_8, .inl (cI, 40, .inl (fun _ => 0)))] sz) (fun q g => [])) 0 0 (va_A [(h0, .inr (4, [.int 0, .ref h0_1, .ref h0_2, .ref h0_3, .ref h0_4, .ref h0_5, .ref h0_6, .ref h0_7, .ref h0_8, .ref h0_9])), (h0_1, .inl (cI, 40, .inl (fun _ => 0))), (h0_2, .inl (cI, 40, .inl (fun _ => 0))), (h0_3, .inl (cI, 40, .inl (fun _ => 0))), (h0_4, .inl (cI, 40, .inl (fun _ => 0))), (h0_5, .inl (cI, 40, .inl (fun _ => 0))), (h0_6, .inl (cI, 40, .inl (fun _ => 0))), (h0_7, .inl (cI, 40, .inl (fun _ => 0))), (h0_8, .inl (cI, 40, .inl (fun _ => 0)))] sz) := by
  refine metW (cc := cX4_add) (maxL := 5) (ret := (some .int)) (by decide) rfl (Nat.le_of_ble_eq_true rfl) ?_
  intro p e s m below meth c A ls hx hb hr hml hown hts hlocks hin hKK hP hD hA hS hl
  have hK := hKK.1
  have hown : s.vm.findClass RX4 = some m.cls := hown
  have hl : lv_has ls 5 [(0, .ref h0), (1, .int u1), (2, .int u2), (3, .int u3)] := hl
  have hP : va_P G vwCl [(h0, .inr (4, [.int 0, .ref h0_1, .ref h0_2, .ref h0_3, .ref h0_4, .ref h0_5, .ref h0_6, .ref h0_7, .ref h0_8, .ref h0_9])), (h0_1, .inl (cI, 40, .inl (fun _ => 0))), (h0_2, .inl (cI, 40, .inl (fun _ => 0))), (h0_3, .inl (cI, 40, .inl (fun _ => 0))), (h0_4, .inl (cI, 40, .inl (fun _ => 0))), (h0_5, .inl (cI, 40, .inl (fun _ => 0))), (h0_6, .inl (cI, 40, .inl (fun _ => 0))), (h0_7, .inl (cI, 40, .inl (fun _ => 0))), (h0_8, .inl (cI, 40, .inl (fun _ => 0)))] s.heap := hP
  have hD : va_D A [(h0, .inr (4, [.int 0, .ref h0_1, .ref h0_2, .ref h0_3, .ref h0_4, .ref h0_5, .ref h0_6, .ref h0_7, .ref h0_8, .ref h0_9])), (h0_1, .inl (cI, 40, .inl (fun _ => 0))), (h0_2, .inl (cI, 40, .inl (fun _ => 0))), (h0_3, .inl (cI, 40, .inl (fun _ => 0))), (h0_4, .inl (cI, 40, .inl (fun _ => 0))), (h0_5, .inl (cI, 40, .inl (fun _ => 0))), (h0_6, .inl (cI, 40, .inl (fun _ => 0))), (h0_7, .inl (cI, 40, .inl (fun _ => 0))), (h0_8, .inl (cI, 40, .inl (fun _ => 0)))] := hD
  refine lv_aload_n hx hb dX4_add_0 rfl (lv_at hl 0 rfl) ?_
  refine va_get (D := G) (ci := 4) (v := .int 0) (C := RX4) (T := TX4) (N := 10) hx hb hts cm_X4_add_0 hown hK hP 0 rfl rfl 0 (by decide) (hts _ (dmem (j := 0) rfl)) (fun _ h9 => h9) rfl dX4_add_1 ?_
  refine lv_bipush (v := 40) hx hb dX4_add_4 (by decide) ?_
  refine lv_icmp_lt (tgt := 11) hx hb dX4_add_6 (by decide) (fun _ => ?_) (fun c => absurd c (by decide))
  refine lv_aload_n hx hb dX4_add_11 rfl (lv_at hl 0 rfl) ?_
  refine va_get (D := G) (ci := 4) (v := .int 0) (C := RX4) (T := TX4) (N := 10) hx hb hts cm_X4_add_0 hown hK hP 0 rfl rfl 0 (by decide) (hts _ (dmem (j := 0) rfl)) (fun _ h9 => h9) rfl dX4_add_12 ?_
  refine lv_istore (lv' := [(4, .int 0), (0, .ref h0), (1, .int u1), (2, .int u2), (3, .int u3)]) hx hb dX4_add_15 hl (by decide) rfl (fun ls hl => ?_)
  refine lv_aload_n hx hb dX4_add_17 rfl (lv_at hl 1 rfl) ?_
  refine va_get (D := G) (ci := 4) (v := .ref h0_1) (C := RX4) (T := TX4) (N := 10) hx hb hts cm_X4_add_0 hown hK hP 0 rfl rfl 1 (by decide) (hts _ (dmem (j := 1) rfl)) (fun _ h9 => h9) rfl dX4_add_18 ?_
  refine lv_iload hx hb dX4_add_21 (lv_at hl 0 rfl) ?_
  refine lv_iload_n hx hb dX4_add_23 rfl (lv_at hl 2 rfl) ?_
  refine va_iast hx hb hK hP hD hS 1 0 rfl rfl (vp_in_iff.mpr (by decide)) dX4_add_24 (fun H locs => setW (ws' := [(h0, .inr (4, [.int 0, .ref h0_1, .ref h0_2, .ref h0_3, .ref h0_4, .ref h0_5, .ref h0_6, .ref h0_7, .ref h0_8, .ref h0_9])), (h0_1, .inl (cI, 40, .inl (upd (fun _ => 0) 0 u1))), (h0_2, .inl (cI, 40, .inl (fun _ => 0))), (h0_3, .inl (cI, 40, .inl (fun _ => 0))), (h0_4, .inl (cI, 40, .inl (fun _ => 0))), (h0_5, .inl (cI, 40, .inl (fun _ => 0))), (h0_6, .inl (cI, 40, .inl (fun _ => 0))), (h0_7, .inl (cI, 40, .inl (fun _ => 0))), (h0_8, .inl (cI, 40, .inl (fun _ => 0)))]) rfl (fun hP hD hS => ?_))
  refine lv_aload_n hx hb dX4_add_25 rfl (lv_at hl 1 rfl) ?_
  refine va_get (D := G) (ci := 4) (v := .ref h0_2) (C := RX4) (T := TX4) (N := 10) hx hb hts cm_X4_add_0 hown hK hP 0 rfl rfl 2 (by decide) (hts _ (dmem (j := 2) rfl)) (fun _ h9 => h9) rfl dX4_add_26 ?_
  refine lv_iload hx hb dX4_add_29 (lv_at hl 0 rfl) ?_
  refine lv_iload_n hx hb dX4_add_31 rfl (lv_at hl 3 rfl) ?_
  refine va_iast hx hb hK hP hD hS 2 0 rfl rfl (vp_in_iff.mpr (by decide)) dX4_add_32 (fun H locs => setW (ws' := [(h0, .inr (4, [.int 0, .ref h0_1, .ref h0_2, .ref h0_3, .ref h0_4, .ref h0_5, .ref h0_6, .ref h0_7, .ref h0_8, .ref h0_9])), (h0_1, .inl (cI, 40, .inl (upd (fun _ => 0) 0 u1))), (h0_2, .inl (cI, 40, .inl (upd (fun _ => 0) 0 u2))), (h0_3, .inl (cI, 40, .inl (fun _ => 0))), (h0_4, .inl (cI, 40, .inl (fun _ => 0))), (h0_5, .inl (cI, 40, .inl (fun _ => 0))), (h0_6, .inl (cI, 40, .inl (fun _ => 0))), (h0_7, .inl (cI, 40, .inl (fun _ => 0))), (h0_8, .inl (cI, 40, .inl (fun _ => 0)))]) rfl (fun hP hD hS => ?_))
  refine lv_aload_n hx hb dX4_add_33 rfl (lv_at hl 1 rfl) ?_
  refine va_get (D := G) (ci := 4) (v := .ref h0_3) (C := RX4) (T := TX4) (N := 10) hx hb hts cm_X4_add_0 hown hK hP 0 rfl rfl 3 (by decide) (hts _ (dmem (j := 3) rfl)) (fun _ h9 => h9) rfl dX4_add_34 ?_
  refine lv_iload hx hb dX4_add_37 (lv_at hl 0 rfl) ?_
  refine lv_iload_n hx hb dX4_add_39 rfl (lv_at hl 4 rfl) ?_
  refine va_iast hx hb hK hP hD hS 3 0 rfl rfl (vp_in_iff.mpr (by decide)) dX4_add_40 (fun H locs => setW (ws' := [(h0, .inr (4, [.int 0, .ref h0_1, .ref h0_2, .ref h0_3, .ref h0_4, .ref h0_5, .ref h0_6, .ref h0_7, .ref h0_8, .ref h0_9])), (h0_1, .inl (cI, 40, .inl (upd (fun _ => 0) 0 u1))), (h0_2, .inl (cI, 40, .inl (upd (fun _ => 0) 0 u2))), (h0_3, .inl (cI, 40, .inl (upd (fun _ => 0) 0 u3))), (h0_4, .inl (cI, 40, .inl (fun _ => 0))), (h0_5, .inl (cI, 40, .inl (fun _ => 0))), (h0_6, .inl (cI, 40, .inl (fun _ => 0))), (h0_7, .inl (cI, 40, .inl (fun _ => 0))), (h0_8, .inl (cI, 40, .inl (fun _ => 0)))]) rfl (fun hP hD hS => ?_))
  refine lv_aload_n hx hb dX4_add_41 rfl (lv_at hl 1 rfl) ?_
  refine va_get (D := G) (ci := 4) (v := .ref h0_4) (C := RX4) (T := TX4) (N := 10) hx hb hts cm_X4_add_0 hown hK hP 0 rfl rfl 4 (by decide) (hts _ (dmem (j := 4) rfl)) (fun _ h9 => h9) rfl dX4_add_42 ?_
  refine lv_iload hx hb dX4_add_45 (lv_at hl 0 rfl) ?_
  refine lv_iconst (v := (-1)) hx hb dX4_add_47 (by decide) ?_
  refine va_iast hx hb hK hP hD hS 4 0 rfl rfl (vp_in_iff.mpr (by decide)) dX4_add_48 (fun H locs => setW (ws' := [(h0, .inr (4, [.int 0, .ref h0_1, .ref h0_2, .ref h0_3, .ref h0_4, .ref h0_5, .ref h0_6, .ref h0_7, .ref h0_8, .ref h0_9])), (h0_1, .inl (cI, 40, .inl (upd (fun _ => 0) 0 u1))), (h0_2, .inl (cI, 40, .inl (upd (fun _ => 0) 0 u2))), (h0_3, .inl (cI, 40, .inl (upd (fun _ => 0) 0 u3))), (h0_4, .inl (cI, 40, .inl (upd (fun _ => 0) 0 (-1)))), (h0_5, .inl (cI, 40, .inl (fun _ => 0))), (h0_6, .inl (cI, 40, .inl (fun _ => 0))), (h0_7, .inl (cI, 40, .inl (fun _ => 0))), (h0_8, .inl (cI, 40, .inl (fun _ => 0)))]) rfl (fun hP hD hS => ?_))
  refine lv_aload_n hx hb dX4_add_49 rfl (lv_at hl 1 rfl) ?_
  refine va_get (D := G) (ci := 4) (v := .ref h0_5) (C := RX4) (T := TX4) (N := 10) hx hb hts cm_X4_add_0 hown hK hP 0 rfl rfl 5 (by decide) (hts _ (dmem (j := 5) rfl)) (fun _ h9 => h9) rfl dX4_add_50 ?_
  refine lv_iload hx hb dX4_add_53 (lv_at hl 0 rfl) ?_
  refine lv_iconst (v := 0) hx hb dX4_add_55 (by decide) ?_
  refine va_iast hx hb hK hP hD hS 5 0 rfl rfl (vp_in_iff.mpr (by decide)) dX4_add_56 (fun H locs => setW (ws' := [(h0, .inr (4, [.int 0, .ref h0_1, .ref h0_2, .ref h0_3, .ref h0_4, .ref h0_5, .ref h0_6, .ref h0_7, .ref h0_8, .ref h0_9])), (h0_1, .inl (cI, 40, .inl (upd (fun _ => 0) 0 u1))), (h0_2, .inl (cI, 40, .inl (upd (fun _ => 0) 0 u2))), (h0_3, .inl (cI, 40, .inl (upd (fun _ => 0) 0 u3))), (h0_4, .inl (cI, 40, .inl (upd (fun _ => 0) 0 (-1)))), (h0_5, .inl (cI, 40, .inl (upd (fun _ => 0) 0 0))), (h0_6, .inl (cI, 40, .inl (fun _ => 0))), (h0_7, .inl (cI, 40, .inl (fun _ => 0))), (h0_8, .inl (cI, 40, .inl (fun _ => 0)))]) rfl (fun hP hD hS => ?_))
  refine lv_aload_n hx hb dX4_add_57 rfl (lv_at hl 1 rfl) ?_
  refine va_get (D := G) (ci := 4) (v := .ref h0_6) (C := RX4) (T := TX4) (N := 10) hx hb hts cm_X4_add_0 hown hK hP 0 rfl rfl 6 (by decide) (hts _ (dmem (j := 6) rfl)) (fun _ h9 => h9) rfl dX4_add_58 ?_
  refine lv_iload hx hb dX4_add_61 (lv_at hl 0 rfl) ?_
  refine lv_iconst (v := 0) hx hb dX4_add_63 (by decide) ?_
  refine va_iast hx hb hK hP hD hS 6 0 rfl rfl (vp_in_iff.mpr (by decide)) dX4_add_64 (fun H locs => setW (ws' := [(h0, .inr (4, [.int 0, .ref h0_1, .ref h0_2, .ref h0_3, .ref h0_4, .ref h0_5, .ref h0_6, .ref h0_7, .ref h0_8, .ref h0_9])), (h0_1, .inl (cI, 40, .inl (upd (fun _ => 0) 0 u1))), (h0_2, .inl (cI, 40, .inl (upd (fun _ => 0) 0 u2))), (h0_3, .inl (cI, 40, .inl (upd (fun _ => 0) 0 u3))), (h0_4, .inl (cI, 40, .inl (upd (fun _ => 0) 0 (-1)))), (h0_5, .inl (cI, 40, .inl (upd (fun _ => 0) 0 0))), (h0_6, .inl (cI, 40, .inl (upd (fun _ => 0) 0 0))), (h0_7, .inl (cI, 40, .inl (fun _ => 0))), (h0_8, .inl (cI, 40, .inl (fun _ => 0)))]) rfl (fun hP hD hS => ?_))
  refine lv_aload_n hx hb dX4_add_65 rfl (lv_at hl 1 rfl) ?_
  refine va_get (D := G) (ci := 4) (v := .ref h0_7) (C := RX4) (T := TX4) (N := 10) hx hb hts cm_X4_add_0 hown hK hP 0 rfl rfl 7 (by decide) (hts _ (dmem (j := 7) rfl)) (fun _ h9 => h9) rfl dX4_add_66 ?_
  refine lv_iload hx hb dX4_add_69 (lv_at hl 0 rfl) ?_
  refine lv_iconst (v := (-1)) hx hb dX4_add_71 (by decide) ?_
  refine va_iast hx hb hK hP hD hS 7 0 rfl rfl (vp_in_iff.mpr (by decide)) dX4_add_72 (fun H locs => setW (ws' := [(h0, .inr (4, [.int 0, .ref h0_1, .ref h0_2, .ref h0_3, .ref h0_4, .ref h0_5, .ref h0_6, .ref h0_7, .ref h0_8, .ref h0_9])), (h0_1, .inl (cI, 40, .inl (upd (fun _ => 0) 0 u1))), (h0_2, .inl (cI, 40, .inl (upd (fun _ => 0) 0 u2))), (h0_3, .inl (cI, 40, .inl (upd (fun _ => 0) 0 u3))), (h0_4, .inl (cI, 40, .inl (upd (fun _ => 0) 0 (-1)))), (h0_5, .inl (cI, 40, .inl (upd (fun _ => 0) 0 0))), (h0_6, .inl (cI, 40, .inl (upd (fun _ => 0) 0 0))), (h0_7, .inl (cI, 40, .inl (upd (fun _ => 0) 0 (-1)))), (h0_8, .inl (cI, 40, .inl (fun _ => 0)))]) rfl (fun hP hD hS => ?_))
  refine lv_aload_n hx hb dX4_add_73 rfl (lv_at hl 1 rfl) ?_
  refine va_get (D := G) (ci := 4) (v := .ref h0_8) (C := RX4) (T := TX4) (N := 10) hx hb hts cm_X4_add_0 hown hK hP 0 rfl rfl 8 (by decide) (hts _ (dmem (j := 8) rfl)) (fun _ h9 => h9) rfl dX4_add_74 ?_
  refine lv_iload hx hb dX4_add_77 (lv_at hl 0 rfl) ?_
  refine lv_iconst (v := 0) hx hb dX4_add_79 (by decide) ?_
  refine va_iast hx hb hK hP hD hS 8 0 rfl rfl (vp_in_iff.mpr (by decide)) dX4_add_80 (fun H locs => setW (ws' := [(h0, .inr (4, [.int 0, .ref h0_1, .ref h0_2, .ref h0_3, .ref h0_4, .ref h0_5, .ref h0_6, .ref h0_7, .ref h0_8, .ref h0_9])), (h0_1, .inl (cI, 40, .inl (upd (fun _ => 0) 0 u1))), (h0_2, .inl (cI, 40, .inl (upd (fun _ => 0) 0 u2))), (h0_3, .inl (cI, 40, .inl (upd (fun _ => 0) 0 u3))), (h0_4, .inl (cI, 40, .inl (upd (fun _ => 0) 0 (-1)))), (h0_5, .inl (cI, 40, .inl (upd (fun _ => 0) 0 0))), (h0_6, .inl (cI, 40, .inl (upd (fun _ => 0) 0 0))), (h0_7, .inl (cI, 40, .inl (upd (fun _ => 0) 0 (-1)))), (h0_8, .inl (cI, 40, .inl (upd (fun _ => 0) 0 0)))]) rfl (fun hP hD hS => ?_))
  refine lv_aload_n hx hb dX4_add_81 rfl (lv_at hl 1 rfl) ?_
  refine lv_dup hx hb dX4_add_82 rfl ?_
  refine va_get (D := G) (ci := 4) (v := .int 0) (C := RX4) (T := TX4) (N := 10) hx hb hts cm_X4_add_0 hown hK hP 0 rfl rfl 0 (by decide) (hts _ (dmem (j := 0) rfl)) (fun _ h9 => h9) rfl dX4_add_83 ?_
  refine lv_iconst (v := 1) hx hb dX4_add_86 (by decide) ?_
  refine lv_iadd hx hb dX4_add_87 ?_
  refine lv_topi (fun x1 ex1 => ?_)
  obtain rfl : 1 = x1 := (ex1.trans (by decide)).symm
  refine va_put (D := G) (ci := 4) (v := .int 1) (ty := .int) (C := RX4) (T := TX4) (N := 10) hx hb hts cm_X4_add_0 tyX4 tyX4_ok nmX4 hown hK hP hD hS 0 rfl rfl 0 (by decide) (hts _ (dmem (j := 0) rfl)) (fun _ h9 => h9) rfl (by decide +kernel) rfl rfl (Nat.le_of_ble_eq_true rfl) dX4_add_88 (fun H locs => setW (ws' := [(h0, .inr (4, [.int 1, .ref h0_1, .ref h0_2, .ref h0_3, .ref h0_4, .ref h0_5, .ref h0_6, .ref h0_7, .ref h0_8, .ref h0_9])), (h0_1, .inl (cI, 40, .inl (upd (fun _ => 0) 0 u1))), (h0_2, .inl (cI, 40, .inl (upd (fun _ => 0) 0 u2))), (h0_3, .inl (cI, 40, .inl (upd (fun _ => 0) 0 u3))), (h0_4, .inl (cI, 40, .inl (upd (fun _ => 0) 0 (-1)))), (h0_5, .inl (cI, 40, .inl (upd (fun _ => 0) 0 0))), (h0_6, .inl (cI, 40, .inl (upd (fun _ => 0) 0 0))), (h0_7, .inl (cI, 40, .inl (upd (fun _ => 0) 0 (-1)))), (h0_8, .inl (cI, 40, .inl (upd (fun _ => 0) 0 0)))]) rfl (fun hP hD hS => ?_))
  refine lv_iload hx hb dX4_add_91 (lv_at hl 0 rfl) ?_
  exact retI hx hb hr hlocks ⟨_, rfl, rfl⟩ hP hD hS (fun _ => 0) (fun _ _ => 0) [] (by decide +kernel) rfl dX4_add_93
def d_X1_addEstate : List Cond := [Cond.fieldLink RX1 49 "NoRent$Land" "estates" "I", Cond.fieldLink RX1 33 "NoRent$Land" "chest" "[I", Cond.fieldLink RX1 36 "NoRent$Land" "mortgage" "[I", Cond.fieldLink RX1 39 "NoRent$Land" "fallen" "[I"]
def v_X1_addEstate : List Cond := Cond.code yX1_addEstate cX1_addEstate 4 (some .int) :: (d_X1_addEstate ++ (wsX10 ++ ([] : List Cond)))
theorem cm_X1_addEstate_0 : ∀ w ∈ wsX10, w ∈ v_X1_addEstate := fun _ h => List.mem_cons_of_mem _ (List.mem_append_right _ (List.mem_append_left _ h))
theorem gd_X1_addEstate : Gd v_X1_addEstate := gd_mk (by decide +kernel) (gd_app gd_X1 gd_nil)
set_option maxHeartbeats 4000000 in
set_option maxRecDepth 100000 in
theorem c_X1_addEstate (l : Launch) (G : va_G) (cI cJ cZ cD cR cT : ClassId) (h0 : Nat) (u1 : Int32) (u2 : Int32) (h0_1 : Nat) (h0_2 : Nat) (h0_3 : Nat) (h0_4 : Nat) (h0_5 : Nat) (h0_6 : Nat) (h0_7 : Nat) (h0_9 : Nat) (h0_10 : Nat) (h0_11 : Nat) (sz : Nat) : Met l yX1_addEstate v_X1_addEstate ({ frames := 1, cells := 0, slots := 0, locals := 40 }) (va_Pc [.ref h0, .int u1, .int u2] (PreW G (tys6 cI cJ cZ cD cR cT) [(h0, .inr (1, [.int 0, .ref h0_1, .ref h0_2, .ref h0_3, .ref h0_4, .ref h0_5, .ref h0_6, .ref h0_7, .int 0, .ref h0_9, .ref h0_10, .ref h0_11, .int (-1), .long 0, .long 0])), (h0_9, .inl (cI, 8, .inl (fun _ => 0))), (h0_10, .inl (cI, 8, .inl (fun _ => 0))), (h0_11, .inl (cI, 8, .inl (fun _ => 0)))] sz)) (QW (RI (fun r => r = 0)) G (va_A [(h0, .inr (1, [.int 0, .ref h0_1, .ref h0_2, .ref h0_3, .ref h0_4, .ref h0_5, .ref h0_6, .ref h0_7, .int 0, .ref h0_9, .ref h0_10, .ref h0_11, .int (-1), .long 0, .long 0])), (h0_9, .inl (cI, 8, .inl (fun _ => 0))), (h0_10, .inl (cI, 8, .inl (fun _ => 0))), (h0_11, .inl (cI, 8, .inl (fun _ => 0)))] sz) (fun q g => [])) 0 0 (va_A [(h0, .inr (1, [.int 0, .ref h0_1, .ref h0_2, .ref h0_3, .ref h0_4, .ref h0_5, .ref h0_6, .ref h0_7, .int 0, .ref h0_9, .ref h0_10, .ref h0_11, .int (-1), .long 0, .long 0])), (h0_9, .inl (cI, 8, .inl (fun _ => 0))), (h0_10, .inl (cI, 8, .inl (fun _ => 0))), (h0_11, .inl (cI, 8, .inl (fun _ => 0)))] sz) := by
  refine metW (cc := cX1_addEstate) (maxL := 4) (ret := (some .int)) (by decide) rfl (Nat.le_of_ble_eq_true rfl) ?_
  intro p e s m below meth c A ls hx hb hr hml hown hts hlocks hin hKK hP hD hA hS hl
  have hK := hKK.1
  have hown : s.vm.findClass RX1 = some m.cls := hown
  have hl : lv_has ls 4 [(0, .ref h0), (1, .int u1), (2, .int u2)] := hl
  have hP : va_P G vwCl [(h0, .inr (1, [.int 0, .ref h0_1, .ref h0_2, .ref h0_3, .ref h0_4, .ref h0_5, .ref h0_6, .ref h0_7, .int 0, .ref h0_9, .ref h0_10, .ref h0_11, .int (-1), .long 0, .long 0])), (h0_9, .inl (cI, 8, .inl (fun _ => 0))), (h0_10, .inl (cI, 8, .inl (fun _ => 0))), (h0_11, .inl (cI, 8, .inl (fun _ => 0)))] s.heap := hP
  have hD : va_D A [(h0, .inr (1, [.int 0, .ref h0_1, .ref h0_2, .ref h0_3, .ref h0_4, .ref h0_5, .ref h0_6, .ref h0_7, .int 0, .ref h0_9, .ref h0_10, .ref h0_11, .int (-1), .long 0, .long 0])), (h0_9, .inl (cI, 8, .inl (fun _ => 0))), (h0_10, .inl (cI, 8, .inl (fun _ => 0))), (h0_11, .inl (cI, 8, .inl (fun _ => 0)))] := hD
  refine lv_aload_n hx hb dX1_addEstate_0 rfl (lv_at hl 0 rfl) ?_
  refine va_get (D := G) (ci := 1) (v := .int 0) (C := RX1) (T := TX1) (N := 15) hx hb hts cm_X1_addEstate_0 hown hK hP 0 rfl rfl 8 (by decide) (hts _ (dmem (j := 0) rfl)) (fun _ h9 => h9) rfl dX1_addEstate_1 ?_
  refine lv_bipush (v := 8) hx hb dX1_addEstate_4 (by decide) ?_
  refine lv_icmp_lt (tgt := 11) hx hb dX1_addEstate_6 (by decide) (fun _ => ?_) (fun c => absurd c (by decide))
  refine lv_aload_n hx hb dX1_addEstate_11 rfl (lv_at hl 0 rfl) ?_
  refine va_get (D := G) (ci := 1) (v := .int 0) (C := RX1) (T := TX1) (N := 15) hx hb hts cm_X1_addEstate_0 hown hK hP 0 rfl rfl 8 (by decide) (hts _ (dmem (j := 0) rfl)) (fun _ h9 => h9) rfl dX1_addEstate_12 ?_
  refine lv_istore_n (lv' := [(3, .int 0), (0, .ref h0), (1, .int u1), (2, .int u2)]) hx hb dX1_addEstate_15 rfl hl (by decide) rfl (fun ls hl => ?_)
  refine lv_aload_n hx hb dX1_addEstate_16 rfl (lv_at hl 1 rfl) ?_
  refine va_get (D := G) (ci := 1) (v := .ref h0_9) (C := RX1) (T := TX1) (N := 15) hx hb hts cm_X1_addEstate_0 hown hK hP 0 rfl rfl 9 (by decide) (hts _ (dmem (j := 1) rfl)) (fun _ h9 => h9) rfl dX1_addEstate_17 ?_
  refine lv_iload_n hx hb dX1_addEstate_20 rfl (lv_at hl 0 rfl) ?_
  refine lv_iload_n hx hb dX1_addEstate_21 rfl (lv_at hl 2 rfl) ?_
  refine va_iast hx hb hK hP hD hS 1 0 rfl rfl (vp_in_iff.mpr (by decide)) dX1_addEstate_22 (fun H locs => setW (ws' := [(h0, .inr (1, [.int 0, .ref h0_1, .ref h0_2, .ref h0_3, .ref h0_4, .ref h0_5, .ref h0_6, .ref h0_7, .int 0, .ref h0_9, .ref h0_10, .ref h0_11, .int (-1), .long 0, .long 0])), (h0_9, .inl (cI, 8, .inl (upd (fun _ => 0) 0 u1))), (h0_10, .inl (cI, 8, .inl (fun _ => 0))), (h0_11, .inl (cI, 8, .inl (fun _ => 0)))]) rfl (fun hP hD hS => ?_))
  refine lv_aload_n hx hb dX1_addEstate_23 rfl (lv_at hl 1 rfl) ?_
  refine va_get (D := G) (ci := 1) (v := .ref h0_10) (C := RX1) (T := TX1) (N := 15) hx hb hts cm_X1_addEstate_0 hown hK hP 0 rfl rfl 10 (by decide) (hts _ (dmem (j := 2) rfl)) (fun _ h9 => h9) rfl dX1_addEstate_24 ?_
  refine lv_iload_n hx hb dX1_addEstate_27 rfl (lv_at hl 0 rfl) ?_
  refine lv_iload_n hx hb dX1_addEstate_28 rfl (lv_at hl 3 rfl) ?_
  refine va_iast hx hb hK hP hD hS 2 0 rfl rfl (vp_in_iff.mpr (by decide)) dX1_addEstate_29 (fun H locs => setW (ws' := [(h0, .inr (1, [.int 0, .ref h0_1, .ref h0_2, .ref h0_3, .ref h0_4, .ref h0_5, .ref h0_6, .ref h0_7, .int 0, .ref h0_9, .ref h0_10, .ref h0_11, .int (-1), .long 0, .long 0])), (h0_9, .inl (cI, 8, .inl (upd (fun _ => 0) 0 u1))), (h0_10, .inl (cI, 8, .inl (upd (fun _ => 0) 0 u2))), (h0_11, .inl (cI, 8, .inl (fun _ => 0)))]) rfl (fun hP hD hS => ?_))
  refine lv_aload_n hx hb dX1_addEstate_30 rfl (lv_at hl 1 rfl) ?_
  refine va_get (D := G) (ci := 1) (v := .ref h0_11) (C := RX1) (T := TX1) (N := 15) hx hb hts cm_X1_addEstate_0 hown hK hP 0 rfl rfl 11 (by decide) (hts _ (dmem (j := 3) rfl)) (fun _ h9 => h9) rfl dX1_addEstate_31 ?_
  refine lv_iload_n hx hb dX1_addEstate_34 rfl (lv_at hl 0 rfl) ?_
  refine lv_iconst (v := (-1)) hx hb dX1_addEstate_35 (by decide) ?_
  refine va_iast hx hb hK hP hD hS 3 0 rfl rfl (vp_in_iff.mpr (by decide)) dX1_addEstate_36 (fun H locs => setW (ws' := [(h0, .inr (1, [.int 0, .ref h0_1, .ref h0_2, .ref h0_3, .ref h0_4, .ref h0_5, .ref h0_6, .ref h0_7, .int 0, .ref h0_9, .ref h0_10, .ref h0_11, .int (-1), .long 0, .long 0])), (h0_9, .inl (cI, 8, .inl (upd (fun _ => 0) 0 u1))), (h0_10, .inl (cI, 8, .inl (upd (fun _ => 0) 0 u2))), (h0_11, .inl (cI, 8, .inl (upd (fun _ => 0) 0 (-1))))]) rfl (fun hP hD hS => ?_))
  refine lv_aload_n hx hb dX1_addEstate_37 rfl (lv_at hl 1 rfl) ?_
  refine lv_dup hx hb dX1_addEstate_38 rfl ?_
  refine va_get (D := G) (ci := 1) (v := .int 0) (C := RX1) (T := TX1) (N := 15) hx hb hts cm_X1_addEstate_0 hown hK hP 0 rfl rfl 8 (by decide) (hts _ (dmem (j := 0) rfl)) (fun _ h9 => h9) rfl dX1_addEstate_39 ?_
  refine lv_iconst (v := 1) hx hb dX1_addEstate_42 (by decide) ?_
  refine lv_iadd hx hb dX1_addEstate_43 ?_
  refine lv_topi (fun x1 ex1 => ?_)
  obtain rfl : 1 = x1 := (ex1.trans (by decide)).symm
  refine va_put (D := G) (ci := 1) (v := .int 1) (ty := .int) (C := RX1) (T := TX1) (N := 15) hx hb hts cm_X1_addEstate_0 tyX1 tyX1_ok nmX1 hown hK hP hD hS 0 rfl rfl 8 (by decide) (hts _ (dmem (j := 0) rfl)) (fun _ h9 => h9) rfl (by decide +kernel) rfl rfl (Nat.le_of_ble_eq_true rfl) dX1_addEstate_44 (fun H locs => setW (ws' := [(h0, .inr (1, [.int 0, .ref h0_1, .ref h0_2, .ref h0_3, .ref h0_4, .ref h0_5, .ref h0_6, .ref h0_7, .int 1, .ref h0_9, .ref h0_10, .ref h0_11, .int (-1), .long 0, .long 0])), (h0_9, .inl (cI, 8, .inl (upd (fun _ => 0) 0 u1))), (h0_10, .inl (cI, 8, .inl (upd (fun _ => 0) 0 u2))), (h0_11, .inl (cI, 8, .inl (upd (fun _ => 0) 0 (-1))))]) rfl (fun hP hD hS => ?_))
  refine lv_iload_n hx hb dX1_addEstate_47 rfl (lv_at hl 0 rfl) ?_
  exact retI hx hb hr hlocks ⟨_, rfl, rfl⟩ hP hD hS (fun _ => 0) (fun _ _ => 0) [] (by decide +kernel) rfl dX1_addEstate_48
def d_X1_sumOfRents : List Cond := [Cond.fieldLink RX1 46 "NoRent$Land" "count" "I"]
def v_X1_sumOfRents : List Cond := Cond.code yX1_sumOfRents cX1_sumOfRents 4 (some .long) :: (d_X1_sumOfRents ++ (wsX10 ++ ([] : List Cond)))
theorem cm_X1_sumOfRents_0 : ∀ w ∈ wsX10, w ∈ v_X1_sumOfRents := fun _ h => List.mem_cons_of_mem _ (List.mem_append_right _ (List.mem_append_left _ h))
theorem gd_X1_sumOfRents : Gd v_X1_sumOfRents := gd_mk (by decide +kernel) (gd_app gd_X1 gd_nil)
set_option maxHeartbeats 4000000 in
set_option maxRecDepth 100000 in
theorem c_X1_sumOfRents (l : Launch) (G : va_G) (cI cJ cZ cD cR cT : ClassId) (h0 : Nat) (h0_1 : Nat) (h0_2 : Nat) (h0_3 : Nat) (h0_4 : Nat) (h0_5 : Nat) (h0_6 : Nat) (h0_7 : Nat) (h0_9 : Nat) (h0_10 : Nat) (h0_11 : Nat) (sc : Int32) (sz : Nat) : Met l yX1_sumOfRents v_X1_sumOfRents ({ frames := 1, cells := 0, slots := 0, locals := 40 }) (va_Pc [.ref h0] (PreW G (tys6 cI cJ cZ cD cR cT) [(h0, .inr (1, [.int 0, .ref h0_1, .ref h0_2, .ref h0_3, .ref h0_4, .ref h0_5, .ref h0_6, .ref h0_7, .int 0, .ref h0_9, .ref h0_10, .ref h0_11, .int sc, .long 0, .long 0]))] sz)) (QW (RL_ (fun r => r = 0)) G (va_A [(h0, .inr (1, [.int 0, .ref h0_1, .ref h0_2, .ref h0_3, .ref h0_4, .ref h0_5, .ref h0_6, .ref h0_7, .int 0, .ref h0_9, .ref h0_10, .ref h0_11, .int sc, .long 0, .long 0]))] sz) (fun q g => [(h0, .inr (1, [.int 0, .ref h0_1, .ref h0_2, .ref h0_3, .ref h0_4, .ref h0_5, .ref h0_6, .ref h0_7, .int 0, .ref h0_9, .ref h0_10, .ref h0_11, .int sc, .long 0, .long 0]))])) 0 0 (va_A [(h0, .inr (1, [.int 0, .ref h0_1, .ref h0_2, .ref h0_3, .ref h0_4, .ref h0_5, .ref h0_6, .ref h0_7, .int 0, .ref h0_9, .ref h0_10, .ref h0_11, .int sc, .long 0, .long 0]))] sz) := by
  refine metW (cc := cX1_sumOfRents) (maxL := 4) (ret := (some .long)) (by decide) rfl (Nat.le_of_ble_eq_true rfl) ?_
  intro p e s m below meth c A ls hx hb hr hml hown hts hlocks hin hKK hP hD hA hS hl
  have hK := hKK.1
  have hown : s.vm.findClass RX1 = some m.cls := hown
  have hl : lv_has ls 4 [(0, .ref h0)] := hl
  have hP : va_P G vwCl [(h0, .inr (1, [.int 0, .ref h0_1, .ref h0_2, .ref h0_3, .ref h0_4, .ref h0_5, .ref h0_6, .ref h0_7, .int 0, .ref h0_9, .ref h0_10, .ref h0_11, .int sc, .long 0, .long 0]))] s.heap := hP
  have hD : va_D A [(h0, .inr (1, [.int 0, .ref h0_1, .ref h0_2, .ref h0_3, .ref h0_4, .ref h0_5, .ref h0_6, .ref h0_7, .int 0, .ref h0_9, .ref h0_10, .ref h0_11, .int sc, .long 0, .long 0]))] := hD
  refine lv_lconst (v := 0) hx hb dX1_sumOfRents_0 (by decide) ?_
  refine lv_lstore_n (lv' := [(1, .long 0), (0, .ref h0)]) hx hb dX1_sumOfRents_1 rfl hl (by decide) rfl (fun ls hl => ?_)
  refine lv_iconst (v := 0) hx hb dX1_sumOfRents_2 (by decide) ?_
  refine lv_istore_n (lv' := [(3, .int 0), (1, .long 0), (0, .ref h0)]) hx hb dX1_sumOfRents_3 rfl hl (by decide) rfl (fun ls hl => ?_)
  refine lv_iload_n hx hb dX1_sumOfRents_4 rfl (lv_at hl 0 rfl) ?_
  refine lv_aload_n hx hb dX1_sumOfRents_5 rfl (lv_at hl 2 rfl) ?_
  refine va_get (D := G) (ci := 1) (v := .int 0) (C := RX1) (T := TX1) (N := 15) hx hb hts cm_X1_sumOfRents_0 hown hK hP 0 rfl rfl 0 (by decide) (hts _ (dmem (j := 0) rfl)) (fun _ h9 => h9) rfl dX1_sumOfRents_6 ?_
  refine lv_icmp_ge (tgt := 28) hx hb dX1_sumOfRents_9 (by decide) (fun _ => ?_) (fun c => absurd c (by decide))
  refine lv_lload_n hx hb dX1_sumOfRents_28 rfl (lv_at hl 1 rfl) ?_
  exact retL hx hb hr hlocks ⟨_, rfl, rfl⟩ hP hD hS (fun _ => 0) (fun _ _ => 0) [0] (by decide +kernel) rfl dX1_sumOfRents_29
def d_X1_sumByPlace : List Cond := [Cond.fieldLink RX1 46 "NoRent$Land" "count" "I"]
def v_X1_sumByPlace : List Cond := Cond.code yX1_sumByPlace cX1_sumByPlace 4 (some .long) :: (d_X1_sumByPlace ++ (wsX10 ++ ([] : List Cond)))
theorem cm_X1_sumByPlace_0 : ∀ w ∈ wsX10, w ∈ v_X1_sumByPlace := fun _ h => List.mem_cons_of_mem _ (List.mem_append_right _ (List.mem_append_left _ h))
theorem gd_X1_sumByPlace : Gd v_X1_sumByPlace := gd_mk (by decide +kernel) (gd_app gd_X1 gd_nil)
set_option maxHeartbeats 4000000 in
set_option maxRecDepth 100000 in
theorem c_X1_sumByPlace (l : Launch) (G : va_G) (cI cJ cZ cD cR cT : ClassId) (h0 : Nat) (h0_1 : Nat) (h0_2 : Nat) (h0_3 : Nat) (h0_4 : Nat) (h0_5 : Nat) (h0_6 : Nat) (h0_7 : Nat) (h0_9 : Nat) (h0_10 : Nat) (h0_11 : Nat) (sc : Int32) (sz : Nat) : Met l yX1_sumByPlace v_X1_sumByPlace ({ frames := 1, cells := 0, slots := 0, locals := 40 }) (va_Pc [.ref h0] (PreW G (tys6 cI cJ cZ cD cR cT) [(h0, .inr (1, [.int 0, .ref h0_1, .ref h0_2, .ref h0_3, .ref h0_4, .ref h0_5, .ref h0_6, .ref h0_7, .int 0, .ref h0_9, .ref h0_10, .ref h0_11, .int sc, .long 0, .long 0]))] sz)) (QW (RL_ (fun r => r = 0)) G (va_A [(h0, .inr (1, [.int 0, .ref h0_1, .ref h0_2, .ref h0_3, .ref h0_4, .ref h0_5, .ref h0_6, .ref h0_7, .int 0, .ref h0_9, .ref h0_10, .ref h0_11, .int sc, .long 0, .long 0]))] sz) (fun q g => [(h0, .inr (1, [.int 0, .ref h0_1, .ref h0_2, .ref h0_3, .ref h0_4, .ref h0_5, .ref h0_6, .ref h0_7, .int 0, .ref h0_9, .ref h0_10, .ref h0_11, .int sc, .long 0, .long 0]))])) 0 0 (va_A [(h0, .inr (1, [.int 0, .ref h0_1, .ref h0_2, .ref h0_3, .ref h0_4, .ref h0_5, .ref h0_6, .ref h0_7, .int 0, .ref h0_9, .ref h0_10, .ref h0_11, .int sc, .long 0, .long 0]))] sz) := by
  refine metW (cc := cX1_sumByPlace) (maxL := 4) (ret := (some .long)) (by decide) rfl (Nat.le_of_ble_eq_true rfl) ?_
  intro p e s m below meth c A ls hx hb hr hml hown hts hlocks hin hKK hP hD hA hS hl
  have hK := hKK.1
  have hown : s.vm.findClass RX1 = some m.cls := hown
  have hl : lv_has ls 4 [(0, .ref h0)] := hl
  have hP : va_P G vwCl [(h0, .inr (1, [.int 0, .ref h0_1, .ref h0_2, .ref h0_3, .ref h0_4, .ref h0_5, .ref h0_6, .ref h0_7, .int 0, .ref h0_9, .ref h0_10, .ref h0_11, .int sc, .long 0, .long 0]))] s.heap := hP
  have hD : va_D A [(h0, .inr (1, [.int 0, .ref h0_1, .ref h0_2, .ref h0_3, .ref h0_4, .ref h0_5, .ref h0_6, .ref h0_7, .int 0, .ref h0_9, .ref h0_10, .ref h0_11, .int sc, .long 0, .long 0]))] := hD
  refine lv_lconst (v := 0) hx hb dX1_sumByPlace_0 (by decide) ?_
  refine lv_lstore_n (lv' := [(1, .long 0), (0, .ref h0)]) hx hb dX1_sumByPlace_1 rfl hl (by decide) rfl (fun ls hl => ?_)
  refine lv_iconst (v := 0) hx hb dX1_sumByPlace_2 (by decide) ?_
  refine lv_istore_n (lv' := [(3, .int 0), (1, .long 0), (0, .ref h0)]) hx hb dX1_sumByPlace_3 rfl hl (by decide) rfl (fun ls hl => ?_)
  refine lv_iload_n hx hb dX1_sumByPlace_4 rfl (lv_at hl 0 rfl) ?_
  refine lv_aload_n hx hb dX1_sumByPlace_5 rfl (lv_at hl 2 rfl) ?_
  refine va_get (D := G) (ci := 1) (v := .int 0) (C := RX1) (T := TX1) (N := 15) hx hb hts cm_X1_sumByPlace_0 hown hK hP 0 rfl rfl 0 (by decide) (hts _ (dmem (j := 0) rfl)) (fun _ h9 => h9) rfl dX1_sumByPlace_6 ?_
  refine lv_icmp_ge (tgt := 33) hx hb dX1_sumByPlace_9 (by decide) (fun _ => ?_) (fun c => absurd c (by decide))
  refine lv_lload_n hx hb dX1_sumByPlace_33 rfl (lv_at hl 1 rfl) ?_
  exact retL hx hb hr hlocks ⟨_, rfl, rfl⟩ hP hD hS (fun _ => 0) (fun _ _ => 0) [0] (by decide +kernel) rfl dX1_sumByPlace_34
def d_X1_keepSums : List Cond := [Cond.fieldLink RX1 46 "NoRent$Land" "count" "I", Cond.fieldLink RX1 42 "NoRent$Land" "sealedCount" "I", Cond.methodLink RX1 58 yX1_sumOfRents, Cond.instanceMethod yX1_sumOfRents, Cond.selects RX1 yX1_sumOfRents yX1_sumOfRents, Cond.initialized RX1, Cond.fieldLink RX1 62 "NoRent$Land" "sealedSum" "J", Cond.methodLink RX1 66 yX1_sumByPlace, Cond.instanceMethod yX1_sumByPlace, Cond.selects RX1 yX1_sumByPlace yX1_sumByPlace, Cond.fieldLink RX1 69 "NoRent$Land" "sealedByPlace" "J"]
def v_X1_keepSums : List Cond := Cond.code yX1_keepSums cX1_keepSums 1 none :: (d_X1_keepSums ++ (wsX10 ++ (v_X1_sumOfRents ++ (v_X1_sumByPlace ++ ([] : List Cond)))))
theorem cm_X1_keepSums_0 : ∀ w ∈ wsX10, w ∈ v_X1_keepSums := fun _ h => List.mem_cons_of_mem _ (List.mem_append_right _ (List.mem_append_left _ h))
theorem cm_X1_keepSums_1 : ∀ w ∈ v_X1_sumOfRents, w ∈ v_X1_keepSums := fun _ h => List.mem_cons_of_mem _ (List.mem_append_right _ (List.mem_append_right _ (List.mem_append_left _ h)))
theorem cm_X1_keepSums_2 : ∀ w ∈ v_X1_sumByPlace, w ∈ v_X1_keepSums := fun _ h => List.mem_cons_of_mem _ (List.mem_append_right _ (List.mem_append_right _ (List.mem_append_right _ (List.mem_append_left _ h))))
theorem gd_X1_keepSums : Gd v_X1_keepSums := gd_mk (by decide +kernel) (gd_app gd_X1 (gd_app gd_X1_sumOfRents (gd_app gd_X1_sumByPlace gd_nil)))
set_option maxRecDepth 20000 in
theorem gv_X1_keepSums_58_X1_sumOfRents : GoodIn v_X1_keepSums (wsV RX1 58 RX1 yX1_sumOfRents v_X1_sumOfRents) := goodIn_app (goodIn_of _ (by decide +kernel)) (gi cm_X1_keepSums_1 gd_X1_sumOfRents)
set_option maxRecDepth 20000 in
theorem gv_X1_keepSums_66_X1_sumByPlace : GoodIn v_X1_keepSums (wsV RX1 66 RX1 yX1_sumByPlace v_X1_sumByPlace) := goodIn_app (goodIn_of _ (by decide +kernel)) (gi cm_X1_keepSums_2 gd_X1_sumByPlace)
set_option maxHeartbeats 4000000 in
set_option maxRecDepth 100000 in
theorem c_X1_keepSums (l : Launch) (G : va_G) (cI cJ cZ cD cR cT : ClassId) (h0 : Nat) (h0_1 : Nat) (h0_2 : Nat) (h0_3 : Nat) (h0_4 : Nat) (h0_5 : Nat) (h0_6 : Nat) (h0_7 : Nat) (h0_9 : Nat) (h0_10 : Nat) (h0_11 : Nat) (sz : Nat) : Met l yX1_keepSums v_X1_keepSums ({ frames := 2, cells := 0, slots := 0, locals := 63 }) (va_Pc [.ref h0] (PreW G (tys6 cI cJ cZ cD cR cT) [(h0, .inr (1, [.int 0, .ref h0_1, .ref h0_2, .ref h0_3, .ref h0_4, .ref h0_5, .ref h0_6, .ref h0_7, .int 0, .ref h0_9, .ref h0_10, .ref h0_11, .int (-1), .long 0, .long 0]))] sz)) (QW RV G (va_A [(h0, .inr (1, [.int 0, .ref h0_1, .ref h0_2, .ref h0_3, .ref h0_4, .ref h0_5, .ref h0_6, .ref h0_7, .int 0, .ref h0_9, .ref h0_10, .ref h0_11, .int (-1), .long 0, .long 0]))] sz) (fun q g => [(h0, .inr (1, [.int 0, .ref h0_1, .ref h0_2, .ref h0_3, .ref h0_4, .ref h0_5, .ref h0_6, .ref h0_7, .int 0, .ref h0_9, .ref h0_10, .ref h0_11, .int 0, .long 0, .long 0]))])) 0 0 (va_A [(h0, .inr (1, [.int 0, .ref h0_1, .ref h0_2, .ref h0_3, .ref h0_4, .ref h0_5, .ref h0_6, .ref h0_7, .int 0, .ref h0_9, .ref h0_10, .ref h0_11, .int (-1), .long 0, .long 0]))] sz) := by
  refine metW (cc := cX1_keepSums) (maxL := 1) (ret := none) (by decide) rfl (Nat.le_of_ble_eq_true rfl) ?_
  intro p e s m below meth c A ls hx hb hr hml hown hts hlocks hin hKK hP hD hA hS hl
  have hK := hKK.1
  have hown : s.vm.findClass RX1 = some m.cls := hown
  have hl : lv_has ls 1 [(0, .ref h0)] := hl
  have hP : va_P G vwCl [(h0, .inr (1, [.int 0, .ref h0_1, .ref h0_2, .ref h0_3, .ref h0_4, .ref h0_5, .ref h0_6, .ref h0_7, .int 0, .ref h0_9, .ref h0_10, .ref h0_11, .int (-1), .long 0, .long 0]))] s.heap := hP
  have hD : va_D A [(h0, .inr (1, [.int 0, .ref h0_1, .ref h0_2, .ref h0_3, .ref h0_4, .ref h0_5, .ref h0_6, .ref h0_7, .int 0, .ref h0_9, .ref h0_10, .ref h0_11, .int (-1), .long 0, .long 0]))] := hD
  refine lv_aload_n hx hb dX1_keepSums_0 rfl (lv_at hl 0 rfl) ?_
  refine lv_aload_n hx hb dX1_keepSums_1 rfl (lv_at hl 0 rfl) ?_
  refine va_get (D := G) (ci := 1) (v := .int 0) (C := RX1) (T := TX1) (N := 15) hx hb hts cm_X1_keepSums_0 hown hK hP 0 rfl rfl 0 (by decide) (hts _ (dmem (j := 0) rfl)) (fun _ h9 => h9) rfl dX1_keepSums_2 ?_
  refine va_put (D := G) (ci := 1) (v := .int 0) (ty := .int) (C := RX1) (T := TX1) (N := 15) hx hb hts cm_X1_keepSums_0 tyX1 tyX1_ok nmX1 hown hK hP hD hS 0 rfl rfl 12 (by decide) (hts _ (dmem (j := 1) rfl)) (fun _ h9 => h9) rfl (by decide +kernel) rfl rfl (Nat.le_of_ble_eq_true rfl) dX1_keepSums_5 (fun H locs => setW (ws' := [(h0, .inr (1, [.int 0, .ref h0_1, .ref h0_2, .ref h0_3, .ref h0_4, .ref h0_5, .ref h0_6, .ref h0_7, .int 0, .ref h0_9, .ref h0_10, .ref h0_11, .int 0, .long 0, .long 0]))]) rfl (fun hP hD hS => ?_))
  refine lv_aload_n hx hb dX1_keepSums_8 rfl (lv_at hl 0 rfl) ?_
  refine lv_aload_n hx hb dX1_keepSums_9 rfl (lv_at hl 0 rfl) ?_
  refine goV (As := []) (rest := [.ref h0]) (wr := []) ⟨hx, hb, hml, hown, hts⟩ (c_X1_sumOfRents l G cI cJ cZ cD cR cT h0 h0_1 h0_2 h0_3 h0_4 h0_5 h0_6 h0_7 h0_9 h0_10 h0_11 0 _) (cwV 0 hts gv_X1_keepSums_58_X1_sumOfRents rfl rfl rfl (by decide +kernel) ⟨Nat.le_of_ble_eq_true rfl, Nat.le_of_ble_eq_true rfl⟩) 0 rfl rfl rfl hKK hP hD hS hA [0] [] rfl rfl (by decide +kernel) (by decide +kernel) (by decide +kernel) rfl hl.1 rfl (lv_room (Nat.le_of_ble_eq_true rfl)) dX1_keepSums_10 ⟨Nat.le_of_ble_eq_true rfl, Nat.le_of_ble_eq_true rfl⟩ (fun v2 q1 gq1 H locs hv2 => appW (ws' := [(h0, .inr (1, [.int 0, .ref h0_1, .ref h0_2, .ref h0_3, .ref h0_4, .ref h0_5, .ref h0_6, .ref h0_7, .int 0, .ref h0_9, .ref h0_10, .ref h0_11, .int 0, .long 0, .long 0]))]) rfl (fun hP hD hS => ?_))
  obtain ⟨_, rfl, rfl⟩ := hv2
  refine va_put (D := G) (ci := 1) (v := .long 0) (ty := .long) (C := RX1) (T := TX1) (N := 15) hx hb hts cm_X1_keepSums_0 tyX1 tyX1_ok nmX1 hown hK hP hD hS 0 rfl rfl 13 (by decide) (hts _ (dmem (j := 6) rfl)) (fun _ h9 => h9) rfl (by decide +kernel) rfl rfl (Nat.le_of_ble_eq_true rfl) dX1_keepSums_13 (fun H locs => setW (ws' := [(h0, .inr (1, [.int 0, .ref h0_1, .ref h0_2, .ref h0_3, .ref h0_4, .ref h0_5, .ref h0_6, .ref h0_7, .int 0, .ref h0_9, .ref h0_10, .ref h0_11, .int 0, .long 0, .long 0]))]) rfl (fun hP hD hS => ?_))
  refine lv_aload_n hx hb dX1_keepSums_16 rfl (lv_at hl 0 rfl) ?_
  refine lv_aload_n hx hb dX1_keepSums_17 rfl (lv_at hl 0 rfl) ?_
  refine goV (As := []) (rest := [.ref h0]) (wr := []) ⟨hx, hb, hml, hown, hts⟩ (c_X1_sumByPlace l G cI cJ cZ cD cR cT h0 h0_1 h0_2 h0_3 h0_4 h0_5 h0_6 h0_7 h0_9 h0_10 h0_11 0 _) (cwV 0 hts gv_X1_keepSums_66_X1_sumByPlace rfl rfl rfl (by decide +kernel) ⟨Nat.le_of_ble_eq_true rfl, Nat.le_of_ble_eq_true rfl⟩) 0 rfl rfl rfl hKK hP hD hS hA [0] [] rfl rfl (by decide +kernel) (by decide +kernel) (by decide +kernel) rfl hl.1 rfl (lv_room (Nat.le_of_ble_eq_true rfl)) dX1_keepSums_18 ⟨Nat.le_of_ble_eq_true rfl, Nat.le_of_ble_eq_true rfl⟩ (fun v5 q4 gq4 H locs hv5 => appW (ws' := [(h0, .inr (1, [.int 0, .ref h0_1, .ref h0_2, .ref h0_3, .ref h0_4, .ref h0_5, .ref h0_6, .ref h0_7, .int 0, .ref h0_9, .ref h0_10, .ref h0_11, .int 0, .long 0, .long 0]))]) rfl (fun hP hD hS => ?_))
  obtain ⟨_, rfl, rfl⟩ := hv5
  refine va_put (D := G) (ci := 1) (v := .long 0) (ty := .long) (C := RX1) (T := TX1) (N := 15) hx hb hts cm_X1_keepSums_0 tyX1 tyX1_ok nmX1 hown hK hP hD hS 0 rfl rfl 14 (by decide) (hts _ (dmem (j := 10) rfl)) (fun _ h9 => h9) rfl (by decide +kernel) rfl rfl (Nat.le_of_ble_eq_true rfl) dX1_keepSums_21 (fun H locs => setW (ws' := [(h0, .inr (1, [.int 0, .ref h0_1, .ref h0_2, .ref h0_3, .ref h0_4, .ref h0_5, .ref h0_6, .ref h0_7, .int 0, .ref h0_9, .ref h0_10, .ref h0_11, .int 0, .long 0, .long 0]))]) rfl (fun hP hD hS => ?_))
  exact retV hx hb hr hlocks rfl hP hD hS (fun _ => 0) (fun _ _ => 0) [0] (by decide +kernel) rfl dX1_keepSums_24
def d_X1_findAltered : List Cond := [Cond.fieldLink RX1 42 "NoRent$Land" "sealedCount" "I"]
def v_X1_findAltered : List Cond := Cond.code yX1_findAltered cX1_findAltered 6 (some .int) :: (d_X1_findAltered ++ (wsX10 ++ ([] : List Cond)))
theorem cm_X1_findAltered_0 : ∀ w ∈ wsX10, w ∈ v_X1_findAltered := fun _ h => List.mem_cons_of_mem _ (List.mem_append_right _ (List.mem_append_left _ h))
theorem gd_X1_findAltered : Gd v_X1_findAltered := gd_mk (by decide +kernel) (gd_app gd_X1 gd_nil)
set_option maxHeartbeats 4000000 in
set_option maxRecDepth 100000 in
theorem c_X1_findAltered (l : Launch) (G : va_G) (cI cJ cZ cD cR cT : ClassId) (h0 : Nat) (h0_1 : Nat) (h0_2 : Nat) (h0_3 : Nat) (h0_4 : Nat) (h0_5 : Nat) (h0_6 : Nat) (h0_7 : Nat) (h0_9 : Nat) (h0_10 : Nat) (h0_11 : Nat) (sz : Nat) : Met l yX1_findAltered v_X1_findAltered ({ frames := 1, cells := 0, slots := 0, locals := 40 }) (va_Pc [.ref h0] (PreW G (tys6 cI cJ cZ cD cR cT) [(h0, .inr (1, [.int 0, .ref h0_1, .ref h0_2, .ref h0_3, .ref h0_4, .ref h0_5, .ref h0_6, .ref h0_7, .int 0, .ref h0_9, .ref h0_10, .ref h0_11, .int (-1), .long 0, .long 0]))] sz)) (QW (RI (fun r => r = (-3))) G (va_A [(h0, .inr (1, [.int 0, .ref h0_1, .ref h0_2, .ref h0_3, .ref h0_4, .ref h0_5, .ref h0_6, .ref h0_7, .int 0, .ref h0_9, .ref h0_10, .ref h0_11, .int (-1), .long 0, .long 0]))] sz) (fun q g => [])) 0 0 (va_A [(h0, .inr (1, [.int 0, .ref h0_1, .ref h0_2, .ref h0_3, .ref h0_4, .ref h0_5, .ref h0_6, .ref h0_7, .int 0, .ref h0_9, .ref h0_10, .ref h0_11, .int (-1), .long 0, .long 0]))] sz) := by
  refine metW (cc := cX1_findAltered) (maxL := 6) (ret := (some .int)) (by decide) rfl (Nat.le_of_ble_eq_true rfl) ?_
  intro p e s m below meth c A ls hx hb hr hml hown hts hlocks hin hKK hP hD hA hS hl
  have hK := hKK.1
  have hown : s.vm.findClass RX1 = some m.cls := hown
  have hl : lv_has ls 6 [(0, .ref h0)] := hl
  have hP : va_P G vwCl [(h0, .inr (1, [.int 0, .ref h0_1, .ref h0_2, .ref h0_3, .ref h0_4, .ref h0_5, .ref h0_6, .ref h0_7, .int 0, .ref h0_9, .ref h0_10, .ref h0_11, .int (-1), .long 0, .long 0]))] s.heap := hP
  have hD : va_D A [(h0, .inr (1, [.int 0, .ref h0_1, .ref h0_2, .ref h0_3, .ref h0_4, .ref h0_5, .ref h0_6, .ref h0_7, .int 0, .ref h0_9, .ref h0_10, .ref h0_11, .int (-1), .long 0, .long 0]))] := hD
  refine lv_aload_n hx hb dX1_findAltered_0 rfl (lv_at hl 0 rfl) ?_
  refine va_get (D := G) (ci := 1) (v := .int (-1)) (C := RX1) (T := TX1) (N := 15) hx hb hts cm_X1_findAltered_0 hown hK hP 0 rfl rfl 12 (by decide) (hts _ (dmem (j := 0) rfl)) (fun _ h9 => h9) rfl dX1_findAltered_1 ?_
  refine lv_iconst (v := (-1)) hx hb dX1_findAltered_4 (by decide) ?_
  refine lv_icmp_ne (tgt := 11) hx hb dX1_findAltered_5 (by decide) (fun c => absurd c (by decide)) (fun _ => ?_)
  refine lv_bipush (v := (-3)) hx hb dX1_findAltered_8 (by decide) ?_
  exact retI hx hb hr hlocks ⟨_, rfl, rfl⟩ hP hD hS (fun _ => 0) (fun _ _ => 0) [] (by decide +kernel) rfl dX1_findAltered_10
def d_X3_addOffer : List Cond := [Cond.fieldLink RX3 22 "NoRent$League" "offers" "I", Cond.fieldLink RX3 15 "NoRent$League" "toLeague" "[I", Cond.fieldLink RX3 19 "NoRent$League" "toOwners" "[I"]
def v_X3_addOffer : List Cond := Cond.code yX3_addOffer cX3_addOffer 3 (some .int) :: (d_X3_addOffer ++ (wsX30 ++ ([] : List Cond)))
theorem cm_X3_addOffer_0 : ∀ w ∈ wsX30, w ∈ v_X3_addOffer := fun _ h => List.mem_cons_of_mem _ (List.mem_append_right _ (List.mem_append_left _ h))
theorem gd_X3_addOffer : Gd v_X3_addOffer := gd_mk (by decide +kernel) (gd_app gd_X3 gd_nil)
set_option maxHeartbeats 4000000 in
set_option maxRecDepth 100000 in
theorem c_X3_addOffer (l : Launch) (G : va_G) (cI cJ cZ cD cR cT : ClassId) (h0 : Nat) (u1 : Int32) (u2 : Int32) (h0_4 : Nat) (h0_5 : Nat) (sz : Nat) : Met l yX3_addOffer v_X3_addOffer ({ frames := 1, cells := 0, slots := 0, locals := 40 }) (va_Pc [.ref h0, .int u1, .int u2] (PreW G (tys6 cI cJ cZ cD cR cT) [(h0, .inr (3, [.int 0, .int 50, .int 0, .int 0, .ref h0_4, .ref h0_5])), (h0_4, .inl (cI, 9, .inl (fun _ => 0))), (h0_5, .inl (cI, 9, .inl (fun _ => 0)))] sz)) (QW (RI (fun r => r = 1)) G (va_A [(h0, .inr (3, [.int 0, .int 50, .int 0, .int 0, .ref h0_4, .ref h0_5])), (h0_4, .inl (cI, 9, .inl (fun _ => 0))), (h0_5, .inl (cI, 9, .inl (fun _ => 0)))] sz) (fun q g => [])) 0 0 (va_A [(h0, .inr (3, [.int 0, .int 50, .int 0, .int 0, .ref h0_4, .ref h0_5])), (h0_4, .inl (cI, 9, .inl (fun _ => 0))), (h0_5, .inl (cI, 9, .inl (fun _ => 0)))] sz) := by
  refine metW (cc := cX3_addOffer) (maxL := 3) (ret := (some .int)) (by decide) rfl (Nat.le_of_ble_eq_true rfl) ?_
  intro p e s m below meth c A ls hx hb hr hml hown hts hlocks hin hKK hP hD hA hS hl
  have hK := hKK.1
  have hown : s.vm.findClass RX3 = some m.cls := hown
  have hl : lv_has ls 3 [(0, .ref h0), (1, .int u1), (2, .int u2)] := hl
  have hP : va_P G vwCl [(h0, .inr (3, [.int 0, .int 50, .int 0, .int 0, .ref h0_4, .ref h0_5])), (h0_4, .inl (cI, 9, .inl (fun _ => 0))), (h0_5, .inl (cI, 9, .inl (fun _ => 0)))] s.heap := hP
  have hD : va_D A [(h0, .inr (3, [.int 0, .int 50, .int 0, .int 0, .ref h0_4, .ref h0_5])), (h0_4, .inl (cI, 9, .inl (fun _ => 0))), (h0_5, .inl (cI, 9, .inl (fun _ => 0)))] := hD
  refine lv_aload_n hx hb dX3_addOffer_0 rfl (lv_at hl 0 rfl) ?_
  refine va_get (D := G) (ci := 3) (v := .int 0) (C := RX3) (T := TX3) (N := 6) hx hb hts cm_X3_addOffer_0 hown hK hP 0 rfl rfl 3 (by decide) (hts _ (dmem (j := 0) rfl)) (fun _ h9 => h9) rfl dX3_addOffer_1 ?_
  refine lv_bipush (v := 9) hx hb dX3_addOffer_4 (by decide) ?_
  refine lv_icmp_lt (tgt := 11) hx hb dX3_addOffer_6 (by decide) (fun _ => ?_) (fun c => absurd c (by decide))
  refine lv_aload_n hx hb dX3_addOffer_11 rfl (lv_at hl 0 rfl) ?_
  refine va_get (D := G) (ci := 3) (v := .ref h0_4) (C := RX3) (T := TX3) (N := 6) hx hb hts cm_X3_addOffer_0 hown hK hP 0 rfl rfl 4 (by decide) (hts _ (dmem (j := 1) rfl)) (fun _ h9 => h9) rfl dX3_addOffer_12 ?_
  refine lv_aload_n hx hb dX3_addOffer_15 rfl (lv_at hl 0 rfl) ?_
  refine va_get (D := G) (ci := 3) (v := .int 0) (C := RX3) (T := TX3) (N := 6) hx hb hts cm_X3_addOffer_0 hown hK hP 0 rfl rfl 3 (by decide) (hts _ (dmem (j := 0) rfl)) (fun _ h9 => h9) rfl dX3_addOffer_16 ?_
  refine lv_iload_n hx hb dX3_addOffer_19 rfl (lv_at hl 1 rfl) ?_
  refine va_iast hx hb hK hP hD hS 1 0 rfl rfl (vp_in_iff.mpr (by decide)) dX3_addOffer_20 (fun H locs => setW (ws' := [(h0, .inr (3, [.int 0, .int 50, .int 0, .int 0, .ref h0_4, .ref h0_5])), (h0_4, .inl (cI, 9, .inl (upd (fun _ => 0) 0 u1))), (h0_5, .inl (cI, 9, .inl (fun _ => 0)))]) rfl (fun hP hD hS => ?_))
  refine lv_aload_n hx hb dX3_addOffer_21 rfl (lv_at hl 0 rfl) ?_
  refine va_get (D := G) (ci := 3) (v := .ref h0_5) (C := RX3) (T := TX3) (N := 6) hx hb hts cm_X3_addOffer_0 hown hK hP 0 rfl rfl 5 (by decide) (hts _ (dmem (j := 2) rfl)) (fun _ h9 => h9) rfl dX3_addOffer_22 ?_
  refine lv_aload_n hx hb dX3_addOffer_25 rfl (lv_at hl 0 rfl) ?_
  refine va_get (D := G) (ci := 3) (v := .int 0) (C := RX3) (T := TX3) (N := 6) hx hb hts cm_X3_addOffer_0 hown hK hP 0 rfl rfl 3 (by decide) (hts _ (dmem (j := 0) rfl)) (fun _ h9 => h9) rfl dX3_addOffer_26 ?_
  refine lv_iload_n hx hb dX3_addOffer_29 rfl (lv_at hl 2 rfl) ?_
  refine va_iast hx hb hK hP hD hS 2 0 rfl rfl (vp_in_iff.mpr (by decide)) dX3_addOffer_30 (fun H locs => setW (ws' := [(h0, .inr (3, [.int 0, .int 50, .int 0, .int 0, .ref h0_4, .ref h0_5])), (h0_4, .inl (cI, 9, .inl (upd (fun _ => 0) 0 u1))), (h0_5, .inl (cI, 9, .inl (upd (fun _ => 0) 0 u2)))]) rfl (fun hP hD hS => ?_))
  refine lv_aload_n hx hb dX3_addOffer_31 rfl (lv_at hl 0 rfl) ?_
  refine lv_dup hx hb dX3_addOffer_32 rfl ?_
  refine va_get (D := G) (ci := 3) (v := .int 0) (C := RX3) (T := TX3) (N := 6) hx hb hts cm_X3_addOffer_0 hown hK hP 0 rfl rfl 3 (by decide) (hts _ (dmem (j := 0) rfl)) (fun _ h9 => h9) rfl dX3_addOffer_33 ?_
  refine lv_iconst (v := 1) hx hb dX3_addOffer_36 (by decide) ?_
  refine lv_iadd hx hb dX3_addOffer_37 ?_
  refine lv_topi (fun x1 ex1 => ?_)
  obtain rfl : 1 = x1 := (ex1.trans (by decide)).symm
  refine va_put (D := G) (ci := 3) (v := .int 1) (ty := .int) (C := RX3) (T := TX3) (N := 6) hx hb hts cm_X3_addOffer_0 tyX3 tyX3_ok nmX3 hown hK hP hD hS 0 rfl rfl 3 (by decide) (hts _ (dmem (j := 0) rfl)) (fun _ h9 => h9) rfl (by decide +kernel) rfl rfl (Nat.le_of_ble_eq_true rfl) dX3_addOffer_38 (fun H locs => setW (ws' := [(h0, .inr (3, [.int 0, .int 50, .int 0, .int 1, .ref h0_4, .ref h0_5])), (h0_4, .inl (cI, 9, .inl (upd (fun _ => 0) 0 u1))), (h0_5, .inl (cI, 9, .inl (upd (fun _ => 0) 0 u2)))]) rfl (fun hP hD hS => ?_))
  refine lv_aload_n hx hb dX3_addOffer_41 rfl (lv_at hl 0 rfl) ?_
  refine va_get (D := G) (ci := 3) (v := .int 1) (C := RX3) (T := TX3) (N := 6) hx hb hts cm_X3_addOffer_0 hown hK hP 0 rfl rfl 3 (by decide) (hts _ (dmem (j := 0) rfl)) (fun _ h9 => h9) rfl dX3_addOffer_42 ?_
  exact retI hx hb hr hlocks ⟨_, rfl, rfl⟩ hP hD hS (fun _ => 0) (fun _ _ => 0) [] (by decide +kernel) rfl dX3_addOffer_45
def d_X3_sumOf : List Cond := [Cond.fieldLink RX3 22 "NoRent$League" "offers" "I"]
def v_X3_sumOf : List Cond := Cond.code yX3_sumOf cX3_sumOf 5 (some .int) :: (d_X3_sumOf ++ (wsX30 ++ ([] : List Cond)))
theorem cm_X3_sumOf_0 : ∀ w ∈ wsX30, w ∈ v_X3_sumOf := fun _ h => List.mem_cons_of_mem _ (List.mem_append_right _ (List.mem_append_left _ h))
theorem gd_X3_sumOf : Gd v_X3_sumOf := gd_mk (by decide +kernel) (gd_app gd_X3 gd_nil)
set_option maxHeartbeats 4000000 in
set_option maxRecDepth 100000 in
theorem c_X3_sumOf (l : Launch) (G : va_G) (cI cJ cZ cD cR cT : ClassId) (h0 : Nat) (x : Int32) (b0 : Nat) (h0_4 : Nat) (h0_5 : Nat) (sz : Nat) : Met l yX3_sumOf v_X3_sumOf ({ frames := 1, cells := 0, slots := 0, locals := 40 }) (va_Pc [.ref h0, .int x, .ref b0] (PreW G (tys6 cI cJ cZ cD cR cT) [(h0, .inr (3, [.int 0, .int 50, .int 0, .int 0, .ref h0_4, .ref h0_5]))] sz)) (QW (RI (fun r => r = 0)) G (va_A [(h0, .inr (3, [.int 0, .int 50, .int 0, .int 0, .ref h0_4, .ref h0_5]))] sz) (fun q g => [(h0, .inr (3, [.int 0, .int 50, .int 0, .int 0, .ref h0_4, .ref h0_5]))])) 0 0 (va_A [(h0, .inr (3, [.int 0, .int 50, .int 0, .int 0, .ref h0_4, .ref h0_5]))] sz) := by
  refine metW (cc := cX3_sumOf) (maxL := 5) (ret := (some .int)) (by decide) rfl (Nat.le_of_ble_eq_true rfl) ?_
  intro p e s m below meth c A ls hx hb hr hml hown hts hlocks hin hKK hP hD hA hS hl
  have hK := hKK.1
  have hown : s.vm.findClass RX3 = some m.cls := hown
  have hl : lv_has ls 5 [(0, .ref h0), (1, .int x), (2, .ref b0)] := hl
  have hP : va_P G vwCl [(h0, .inr (3, [.int 0, .int 50, .int 0, .int 0, .ref h0_4, .ref h0_5]))] s.heap := hP
  have hD : va_D A [(h0, .inr (3, [.int 0, .int 50, .int 0, .int 0, .ref h0_4, .ref h0_5]))] := hD
  refine lv_iconst (v := 0) hx hb dX3_sumOf_0 (by decide) ?_
  refine lv_istore_n (lv' := [(3, .int 0), (0, .ref h0), (1, .int x), (2, .ref b0)]) hx hb dX3_sumOf_1 rfl hl (by decide) rfl (fun ls hl => ?_)
  refine lv_iconst (v := 0) hx hb dX3_sumOf_2 (by decide) ?_
  refine lv_istore (lv' := [(4, .int 0), (3, .int 0), (0, .ref h0), (1, .int x), (2, .ref b0)]) hx hb dX3_sumOf_3 hl (by decide) rfl (fun ls hl => ?_)
  refine lv_iload hx hb dX3_sumOf_5 (lv_at hl 0 rfl) ?_
  refine lv_aload_n hx hb dX3_sumOf_7 rfl (lv_at hl 2 rfl) ?_
  refine va_get (D := G) (ci := 3) (v := .int 0) (C := RX3) (T := TX3) (N := 6) hx hb hts cm_X3_sumOf_0 hown hK hP 0 rfl rfl 3 (by decide) (hts _ (dmem (j := 0) rfl)) (fun _ h9 => h9) rfl dX3_sumOf_8 ?_
  refine lv_icmp_ge (tgt := 48) hx hb dX3_sumOf_11 (by decide) (fun _ => ?_) (fun c => absurd c (by decide))
  refine lv_iload_n hx hb dX3_sumOf_48 rfl (lv_at hl 1 rfl) ?_
  exact retI hx hb hr hlocks ⟨_, rfl, rfl⟩ hP hD hS (fun _ => 0) (fun _ _ => 0) [0] (by decide +kernel) rfl dX3_sumOf_49
def d_X3_bestSet : List Cond := [Cond.fieldLink RX3 22 "NoRent$League" "offers" "I", Cond.fieldLink RX3 15 "NoRent$League" "toLeague" "[I", Cond.methodLink RX3 25 yX3_sumOf, Cond.instanceMethod yX3_sumOf, Cond.selects RX3 yX3_sumOf yX3_sumOf, Cond.initialized RX3, Cond.fieldLink RX3 19 "NoRent$League" "toOwners" "[I"]
def v_X3_bestSet : List Cond := Cond.code yX3_bestSet cX3_bestSet 9 (some .int) :: (d_X3_bestSet ++ (wsX30 ++ (v_X3_sumOf ++ ([] : List Cond))))
theorem cm_X3_bestSet_0 : ∀ w ∈ wsX30, w ∈ v_X3_bestSet := fun _ h => List.mem_cons_of_mem _ (List.mem_append_right _ (List.mem_append_left _ h))
theorem cm_X3_bestSet_1 : ∀ w ∈ v_X3_sumOf, w ∈ v_X3_bestSet := fun _ h => List.mem_cons_of_mem _ (List.mem_append_right _ (List.mem_append_right _ (List.mem_append_left _ h)))
theorem gd_X3_bestSet : Gd v_X3_bestSet := gd_mk (by decide +kernel) (gd_app gd_X3 (gd_app gd_X3_sumOf gd_nil))
set_option maxRecDepth 20000 in
theorem gv_X3_bestSet_25_X3_sumOf : GoodIn v_X3_bestSet (wsV RX3 25 RX3 yX3_sumOf v_X3_sumOf) := goodIn_app (goodIn_of _ (by decide +kernel)) (gi cm_X3_bestSet_1 gd_X3_sumOf)
set_option maxHeartbeats 4000000 in
set_option maxRecDepth 100000 in
theorem c_X3_bestSet (l : Launch) (G : va_G) (cI cJ cZ cD cR cT : ClassId) (h0 : Nat) (x : Int32) (y : Int32) (h0_4 : Nat) (h0_5 : Nat) (sz : Nat) : Met l yX3_bestSet v_X3_bestSet ({ frames := 2, cells := 0, slots := 0, locals := 64 }) (va_Pc [.ref h0, .int x, .int y] (PreW G (tys6 cI cJ cZ cD cR cT) [(h0, .inr (3, [.int 0, .int 50, .int 0, .int 0, .ref h0_4, .ref h0_5]))] sz)) (QW (RI (fun r => (r = 0 ∧ (x.toInt ≤ 0 ∧ y.toInt ≤ 0)) ∨ (r = -1 ∧ (0 < x.toInt ∨ 0 < y.toInt)))) G (va_A [(h0, .inr (3, [.int 0, .int 50, .int 0, .int 0, .ref h0_4, .ref h0_5]))] sz) (fun q g => [])) 0 0 (va_A [(h0, .inr (3, [.int 0, .int 50, .int 0, .int 0, .ref h0_4, .ref h0_5]))] sz) := by
  refine metW (cc := cX3_bestSet) (maxL := 9) (ret := (some .int)) (by decide) rfl (Nat.le_of_ble_eq_true rfl) ?_
  intro p e s m below meth c A ls hx hb hr hml hown hts hlocks hin hKK hP hD hA hS hl
  have hK := hKK.1
  have hown : s.vm.findClass RX3 = some m.cls := hown
  have hl : lv_has ls 9 [(0, .ref h0), (1, .int x), (2, .int y)] := hl
  have hP : va_P G vwCl [(h0, .inr (3, [.int 0, .int 50, .int 0, .int 0, .ref h0_4, .ref h0_5]))] s.heap := hP
  have hD : va_D A [(h0, .inr (3, [.int 0, .int 50, .int 0, .int 0, .ref h0_4, .ref h0_5]))] := hD
  refine lv_iconst (v := (-1)) hx hb dX3_bestSet_0 (by decide) ?_
  refine lv_istore_n (lv' := [(3, .int (-1)), (0, .ref h0), (1, .int x), (2, .int y)]) hx hb dX3_bestSet_1 rfl hl (by decide) rfl (fun ls hl => ?_)
  refine lv_iconst (v := 0) hx hb dX3_bestSet_2 (by decide) ?_
  refine lv_istore (lv' := [(4, .int 0), (3, .int (-1)), (0, .ref h0), (1, .int x), (2, .int y)]) hx hb dX3_bestSet_3 hl (by decide) rfl (fun ls hl => ?_)
  refine lv_iconst (v := 0) hx hb dX3_bestSet_5 (by decide) ?_
  refine lv_istore (lv' := [(5, .int 0), (4, .int 0), (3, .int (-1)), (0, .ref h0), (1, .int x), (2, .int y)]) hx hb dX3_bestSet_6 hl (by decide) rfl (fun ls hl => ?_)
  refine lv_iload hx hb dX3_bestSet_8 (lv_at hl 0 rfl) ?_
  refine lv_iconst (v := 1) hx hb dX3_bestSet_10 (by decide) ?_
  refine lv_aload_n hx hb dX3_bestSet_11 rfl (lv_at hl 3 rfl) ?_
  refine va_get (D := G) (ci := 3) (v := .int 0) (C := RX3) (T := TX3) (N := 6) hx hb hts cm_X3_bestSet_0 hown hK hP 0 rfl rfl 3 (by decide) (hts _ (dmem (j := 0) rfl)) (fun _ h9 => h9) rfl dX3_bestSet_12 ?_
  refine lv_ishl hx hb dX3_bestSet_15 ?_
  refine lv_topi (fun x1 ex1 => ?_)
  obtain rfl : 1 = x1 := (ex1.trans (by decide)).symm
  refine lv_icmp_ge (tgt := 115) hx hb dX3_bestSet_16 (by decide) (fun c => absurd c (by decide)) (fun _ => ?_)
  refine lv_aload_n hx hb dX3_bestSet_19 rfl (lv_at hl 3 rfl) ?_
  refine lv_iload hx hb dX3_bestSet_20 (lv_at hl 0 rfl) ?_
  refine lv_aload_n hx hb dX3_bestSet_22 rfl (lv_at hl 3 rfl) ?_
  refine va_get (D := G) (ci := 3) (v := .ref h0_4) (C := RX3) (T := TX3) (N := 6) hx hb hts cm_X3_bestSet_0 hown hK hP 0 rfl rfl 4 (by decide) (hts _ (dmem (j := 1) rfl)) (fun _ h9 => h9) rfl dX3_bestSet_23 ?_
  refine goV (As := [.int 0, .ref h0_4]) (rest := []) (wr := []) ⟨hx, hb, hml, hown, hts⟩ (c_X3_sumOf l G cI cJ cZ cD cR cT h0 0 h0_4 h0_4 h0_5 _) (cwV 2 hts gv_X3_bestSet_25_X3_sumOf rfl rfl rfl (by decide +kernel) ⟨Nat.le_of_ble_eq_true rfl, Nat.le_of_ble_eq_true rfl⟩) 0 rfl rfl rfl hKK hP hD hS hA [0] [] rfl rfl (by decide +kernel) (by decide +kernel) (by decide +kernel) rfl hl.1 rfl (lv_room (Nat.le_of_ble_eq_true rfl)) dX3_bestSet_26 ⟨Nat.le_of_ble_eq_true rfl, Nat.le_of_ble_eq_true rfl⟩ (fun v3 q2 gq2 H locs hv3 => appW (ws' := [(h0, .inr (3, [.int 0, .int 50, .int 0, .int 0, .ref h0_4, .ref h0_5]))]) rfl (fun hP hD hS => ?_))
  obtain ⟨_, rfl, rfl⟩ := hv3
  refine lv_istore (lv' := [(6, .int 0), (5, .int 0), (4, .int 0), (3, .int (-1)), (0, .ref h0), (1, .int x), (2, .int y)]) hx hb dX3_bestSet_29 hl (by decide) rfl (fun ls hl => ?_)
  refine lv_aload_n hx hb dX3_bestSet_31 rfl (lv_at hl 4 rfl) ?_
  refine lv_iload hx hb dX3_bestSet_32 (lv_at hl 1 rfl) ?_
  refine lv_aload_n hx hb dX3_bestSet_34 rfl (lv_at hl 4 rfl) ?_
  refine va_get (D := G) (ci := 3) (v := .ref h0_5) (C := RX3) (T := TX3) (N := 6) hx hb hts cm_X3_bestSet_0 hown hK hP 0 rfl rfl 5 (by decide) (hts _ (dmem (j := 6) rfl)) (fun _ h9 => h9) rfl dX3_bestSet_35 ?_
  refine goV (As := [.int 0, .ref h0_5]) (rest := []) (wr := []) ⟨hx, hb, hml, hown, hts⟩ (c_X3_sumOf l G cI cJ cZ cD cR cT h0 0 h0_5 h0_4 h0_5 _) (cwV 2 hts gv_X3_bestSet_25_X3_sumOf rfl rfl rfl (by decide +kernel) ⟨Nat.le_of_ble_eq_true rfl, Nat.le_of_ble_eq_true rfl⟩) 0 rfl rfl rfl hKK hP hD hS hA [0] [] rfl rfl (by decide +kernel) (by decide +kernel) (by decide +kernel) rfl hl.1 rfl (lv_room (Nat.le_of_ble_eq_true rfl)) dX3_bestSet_38 ⟨Nat.le_of_ble_eq_true rfl, Nat.le_of_ble_eq_true rfl⟩ (fun v6 q5 gq5 H locs hv6 => appW (ws' := [(h0, .inr (3, [.int 0, .int 50, .int 0, .int 0, .ref h0_4, .ref h0_5]))]) rfl (fun hP hD hS => ?_))
  obtain ⟨_, rfl, rfl⟩ := hv6
  refine lv_istore (lv' := [(7, .int 0), (6, .int 0), (5, .int 0), (4, .int 0), (3, .int (-1)), (0, .ref h0), (1, .int x), (2, .int y)]) hx hb dX3_bestSet_41 hl (by decide) rfl (fun ls hl => ?_)
  refine lv_iload hx hb dX3_bestSet_43 (lv_at hl 1 rfl) ?_
  refine lv_iload_n hx hb dX3_bestSet_45 rfl (lv_at hl 6 rfl) ?_
  refine lv_icmp_lt (tgt := 109) hx hb dX3_bestSet_46 (by decide) (fun c8 => ?_) (fun c8 => ?_)
  · have f9 : (0 : Int) < x.toInt := Int32.lt_iff_toInt_lt.mp c8
    refine lv_iinc (v := 1) (lv' := [(5, .int 1), (7, .int 0), (6, .int 0), (4, .int 0), (3, .int (-1)), (0, .ref h0), (1, .int x), (2, .int y)]) hx hb dX3_bestSet_109 hl (k := 2) rfl (by decide) (by decide) rfl (fun ls hl => ?_)
    refine lv_goto (tgt := 8) hx hb dX3_bestSet_112 (by decide) ?_
    refine lv_iload hx hb dX3_bestSet_8 (lv_at hl 0 rfl) ?_
    refine lv_iconst (v := 1) hx hb dX3_bestSet_10 (by decide) ?_
    refine lv_aload_n hx hb dX3_bestSet_11 rfl (lv_at hl 5 rfl) ?_
    refine va_get (D := G) (ci := 3) (v := .int 0) (C := RX3) (T := TX3) (N := 6) hx hb hts cm_X3_bestSet_0 hown hK hP 0 rfl rfl 3 (by decide) (hts _ (dmem (j := 0) rfl)) (fun _ h9 => h9) rfl dX3_bestSet_12 ?_
    refine lv_ishl hx hb dX3_bestSet_15 ?_
    refine lv_topi (fun x10 ex10 => ?_)
    obtain rfl : 1 = x10 := (ex10.trans (by decide)).symm
    refine lv_icmp_ge (tgt := 115) hx hb dX3_bestSet_16 (by decide) (fun _ => ?_) (fun c => absurd c (by decide))
    refine lv_iload_n hx hb dX3_bestSet_115 rfl (lv_at hl 4 rfl) ?_
    exact retI hx hb hr hlocks ⟨_, rfl, Or.inr (⟨rfl, by omega⟩)⟩ hP hD hS (fun _ => 0) (fun _ _ => 0) [] (by decide +kernel) rfl dX3_bestSet_116
  · have f11 : ¬ ((0 : Int) < x.toInt) := fun h => c8 (Int32.lt_iff_toInt_lt.mpr h)
    refine lv_iload hx hb dX3_bestSet_49 (lv_at hl 0 rfl) ?_
    refine lv_iload_n hx hb dX3_bestSet_51 rfl (lv_at hl 7 rfl) ?_
    refine lv_icmp_ge (tgt := 58) hx hb dX3_bestSet_52 (by decide) (fun c12 => ?_) (fun c12 => ?_)
    · have f13 : (y.toInt : Int) ≤ 0 := Int32.le_iff_toInt_le.mp c12
      refine lv_iload_n hx hb dX3_bestSet_58 rfl (lv_at hl 4 rfl) ?_
      refine lv_iconst (v := (-1)) hx hb dX3_bestSet_59 (by decide) ?_
      refine lv_icmp_ne (tgt := 67) hx hb dX3_bestSet_60 (by decide) (fun c => absurd c (by decide)) (fun _ => ?_)
      refine lv_iconst (v := 1) hx hb dX3_bestSet_63 (by decide) ?_
      refine lv_goto (tgt := 77) hx hb dX3_bestSet_64 (by decide) ?_
      refine lv_istore (lv' := [(8, .int 1), (7, .int 0), (6, .int 0), (5, .int 0), (4, .int 0), (3, .int (-1)), (0, .ref h0), (1, .int x), (2, .int y)]) hx hb dX3_bestSet_77 hl (by decide) rfl (fun ls hl => ?_)
      refine lv_iload hx hb dX3_bestSet_79 (lv_at hl 0 rfl) ?_
      refine lv_if_gt (tgt := 99) hx hb dX3_bestSet_81 (by decide) (fun _ => ?_) (fun c => absurd c (by decide))
      refine lv_iload hx hb dX3_bestSet_99 (lv_at hl 3 rfl) ?_
      refine lv_istore_n (lv' := [(3, .int 0), (8, .int 1), (7, .int 0), (6, .int 0), (5, .int 0), (4, .int 0), (0, .ref h0), (1, .int x), (2, .int y)]) hx hb dX3_bestSet_101 rfl hl (by decide) rfl (fun ls hl => ?_)
      refine lv_iload hx hb dX3_bestSet_102 (lv_at hl 3 rfl) ?_
      refine lv_iload hx hb dX3_bestSet_104 (lv_at hl 2 rfl) ?_
      refine lv_iadd hx hb dX3_bestSet_106 ?_
      refine lv_topi (fun x14 ex14 => ?_)
      obtain rfl : 0 = x14 := (ex14.trans (by decide)).symm
      refine lv_istore (lv' := [(4, .int 0), (3, .int 0), (8, .int 1), (7, .int 0), (6, .int 0), (5, .int 0), (0, .ref h0), (1, .int x), (2, .int y)]) hx hb dX3_bestSet_107 hl (by decide) rfl (fun ls hl => ?_)
      refine lv_iinc (v := 1) (lv' := [(5, .int 1), (4, .int 0), (3, .int 0), (8, .int 1), (7, .int 0), (6, .int 0), (0, .ref h0), (1, .int x), (2, .int y)]) hx hb dX3_bestSet_109 hl (k := 5) rfl (by decide) (by decide) rfl (fun ls hl => ?_)
      refine lv_goto (tgt := 8) hx hb dX3_bestSet_112 (by decide) ?_
      refine lv_iload hx hb dX3_bestSet_8 (lv_at hl 0 rfl) ?_
      refine lv_iconst (v := 1) hx hb dX3_bestSet_10 (by decide) ?_
      refine lv_aload_n hx hb dX3_bestSet_11 rfl (lv_at hl 6 rfl) ?_
      refine va_get (D := G) (ci := 3) (v := .int 0) (C := RX3) (T := TX3) (N := 6) hx hb hts cm_X3_bestSet_0 hown hK hP 0 rfl rfl 3 (by decide) (hts _ (dmem (j := 0) rfl)) (fun _ h9 => h9) rfl dX3_bestSet_12 ?_
      refine lv_ishl hx hb dX3_bestSet_15 ?_
      refine lv_topi (fun x15 ex15 => ?_)
      obtain rfl : 1 = x15 := (ex15.trans (by decide)).symm
      refine lv_icmp_ge (tgt := 115) hx hb dX3_bestSet_16 (by decide) (fun _ => ?_) (fun c => absurd c (by decide))
      refine lv_iload_n hx hb dX3_bestSet_115 rfl (lv_at hl 2 rfl) ?_
      exact retI hx hb hr hlocks ⟨_, rfl, Or.inl ⟨rfl, by omega⟩⟩ hP hD hS (fun _ => 0) (fun _ _ => 0) [] (by decide +kernel) rfl dX3_bestSet_116
    · have f16 : ¬ ((y.toInt : Int) ≤ 0) := fun h => c12 (Int32.le_iff_toInt_le.mpr h)
      refine lv_goto (tgt := 109) hx hb dX3_bestSet_55 (by decide) ?_
      refine lv_iinc (v := 1) (lv' := [(5, .int 1), (7, .int 0), (6, .int 0), (4, .int 0), (3, .int (-1)), (0, .ref h0), (1, .int x), (2, .int y)]) hx hb dX3_bestSet_109 hl (k := 2) rfl (by decide) (by decide) rfl (fun ls hl => ?_)
      refine lv_goto (tgt := 8) hx hb dX3_bestSet_112 (by decide) ?_
      refine lv_iload hx hb dX3_bestSet_8 (lv_at hl 0 rfl) ?_
      refine lv_iconst (v := 1) hx hb dX3_bestSet_10 (by decide) ?_
      refine lv_aload_n hx hb dX3_bestSet_11 rfl (lv_at hl 5 rfl) ?_
      refine va_get (D := G) (ci := 3) (v := .int 0) (C := RX3) (T := TX3) (N := 6) hx hb hts cm_X3_bestSet_0 hown hK hP 0 rfl rfl 3 (by decide) (hts _ (dmem (j := 0) rfl)) (fun _ h9 => h9) rfl dX3_bestSet_12 ?_
      refine lv_ishl hx hb dX3_bestSet_15 ?_
      refine lv_topi (fun x17 ex17 => ?_)
      obtain rfl : 1 = x17 := (ex17.trans (by decide)).symm
      refine lv_icmp_ge (tgt := 115) hx hb dX3_bestSet_16 (by decide) (fun _ => ?_) (fun c => absurd c (by decide))
      refine lv_iload_n hx hb dX3_bestSet_115 rfl (lv_at hl 4 rfl) ?_
      exact retI hx hb hr hlocks ⟨_, rfl, Or.inr (⟨rfl, by omega⟩)⟩ hP hD hS (fun _ => 0) (fun _ _ => 0) [] (by decide +kernel) rfl dX3_bestSet_116
def d_X8_append_0 : List Cond := [Cond.fieldLink RX8 19 "NoRent$Tape" "length" "I", Cond.fieldLink RX8 9 "NoRent$Tape" "bytes" "[I"]
def v_X8_append_0 : List Cond := Cond.code yX8_append cX8_append 3 none :: (d_X8_append_0 ++ (wsX80 ++ ([] : List Cond)))
theorem cm_X8_append_0_0 : ∀ w ∈ wsX80, w ∈ v_X8_append_0 := fun _ h => List.mem_cons_of_mem _ (List.mem_append_right _ (List.mem_append_left _ h))
theorem gd_X8_append_0 : Gd v_X8_append_0 := gd_mk (by decide +kernel) (gd_app gd_X8 gd_nil)
set_option maxHeartbeats 4000000 in
set_option maxRecDepth 100000 in
theorem c_X8_append_0 (l : Launch) (G : va_G) (cI cJ cZ cD cR cT : ClassId) (h0 : Nat) (x : Int32) (h0_1 : Nat) (h0_2 : Nat) (fb : Nat → Int32) (sz : Nat) : Met l yX8_append v_X8_append_0 ({ frames := 1, cells := 0, slots := 0, locals := 40 }) (va_Pc [.ref h0, .int x] (PreW G (tys6 cI cJ cZ cD cR cT) [(h0, .inr (8, [.int 0, .ref h0_1, .ref h0_2, .int 0])), (h0_1, .inl (cI, 400, .inl fb))] sz)) (QW RV G (va_A [(h0, .inr (8, [.int 0, .ref h0_1, .ref h0_2, .int 0])), (h0_1, .inl (cI, 400, .inl fb))] sz) (fun q g => [(h0, .inr (8, [.int 4, .ref h0_1, .ref h0_2, .int 0])), (h0_1, .inl (cI, 400, .inl (g 0)))])) 0 0 (va_A [(h0, .inr (8, [.int 0, .ref h0_1, .ref h0_2, .int 0])), (h0_1, .inl (cI, 400, .inl fb))] sz) := by
  refine metW (cc := cX8_append) (maxL := 3) (ret := none) (by decide) rfl (Nat.le_of_ble_eq_true rfl) ?_
  intro p e s m below meth c A ls hx hb hr hml hown hts hlocks hin hKK hP hD hA hS hl
  have hK := hKK.1
  have hown : s.vm.findClass RX8 = some m.cls := hown
  have hl : lv_has ls 3 [(0, .ref h0), (1, .int x)] := hl
  have hP : va_P G vwCl [(h0, .inr (8, [.int 0, .ref h0_1, .ref h0_2, .int 0])), (h0_1, .inl (cI, 400, .inl fb))] s.heap := hP
  have hD : va_D A [(h0, .inr (8, [.int 0, .ref h0_1, .ref h0_2, .int 0])), (h0_1, .inl (cI, 400, .inl fb))] := hD
  refine lv_bipush (v := 24) hx hb dX8_append_0 (by decide) ?_
  refine lv_istore_n (lv' := [(2, .int 24), (0, .ref h0), (1, .int x)]) hx hb dX8_append_2 rfl hl (by decide) rfl (fun ls hl => ?_)
  refine lv_iload_n hx hb dX8_append_3 rfl (lv_at hl 0 rfl) ?_
  refine lv_if_lt (tgt := 49) hx hb dX8_append_4 (by decide) (fun c => absurd c (by decide)) (fun _ => ?_)
  refine lv_aload_n hx hb dX8_append_7 rfl (lv_at hl 1 rfl) ?_
  refine va_get (D := G) (ci := 8) (v := .int 0) (C := RX8) (T := TX8) (N := 4) hx hb hts cm_X8_append_0_0 hown hK hP 0 rfl rfl 0 (by decide) (hts _ (dmem (j := 0) rfl)) (fun _ h9 => h9) rfl dX8_append_8 ?_
  refine lv_sipush (v := 400) hx hb dX8_append_11 (by decide) ?_
  refine lv_icmp_ge (tgt := 49) hx hb dX8_append_14 (by decide) (fun c => absurd c (by decide)) (fun _ => ?_)
  refine lv_aload_n hx hb dX8_append_17 rfl (lv_at hl 1 rfl) ?_
  refine va_get (D := G) (ci := 8) (v := .ref h0_1) (C := RX8) (T := TX8) (N := 4) hx hb hts cm_X8_append_0_0 hown hK hP 0 rfl rfl 1 (by decide) (hts _ (dmem (j := 1) rfl)) (fun _ h9 => h9) rfl dX8_append_18 ?_
  refine lv_aload_n hx hb dX8_append_21 rfl (lv_at hl 1 rfl) ?_
  refine va_get (D := G) (ci := 8) (v := .int 0) (C := RX8) (T := TX8) (N := 4) hx hb hts cm_X8_append_0_0 hown hK hP 0 rfl rfl 0 (by decide) (hts _ (dmem (j := 0) rfl)) (fun _ h9 => h9) rfl dX8_append_22 ?_
  refine lv_iload_n hx hb dX8_append_25 rfl (lv_at hl 2 rfl) ?_
  refine lv_iload_n hx hb dX8_append_26 rfl (lv_at hl 0 rfl) ?_
  refine lv_iushr hx hb dX8_append_27 rfl ?_
  refine lv_topi (fun x1 ex1 => ?_)
  refine lv_sipush (v := 255) hx hb dX8_append_28 (by decide) ?_
  refine lv_iand hx hb dX8_append_31 ?_
  refine lv_topi (fun x2 ex2 => ?_)
  refine va_iast hx hb hK hP hD hS 1 0 rfl rfl (vp_in_iff.mpr (by decide)) dX8_append_32 (fun H locs => setW (ws' := [(h0, .inr (8, [.int 0, .ref h0_1, .ref h0_2, .int 0])), (h0_1, .inl (cI, 400, .inl (upd fb 0 x2)))]) rfl (fun hP hD hS => ?_))
  refine lv_aload_n hx hb dX8_append_33 rfl (lv_at hl 1 rfl) ?_
  refine lv_dup hx hb dX8_append_34 rfl ?_
  refine va_get (D := G) (ci := 8) (v := .int 0) (C := RX8) (T := TX8) (N := 4) hx hb hts cm_X8_append_0_0 hown hK hP 0 rfl rfl 0 (by decide) (hts _ (dmem (j := 0) rfl)) (fun _ h9 => h9) rfl dX8_append_35 ?_
  refine lv_iconst (v := 1) hx hb dX8_append_38 (by decide) ?_
  refine lv_iadd hx hb dX8_append_39 ?_
  refine lv_topi (fun x3 ex3 => ?_)
  obtain rfl : 1 = x3 := (ex3.trans (by decide)).symm
  refine va_put (D := G) (ci := 8) (v := .int 1) (ty := .int) (C := RX8) (T := TX8) (N := 4) hx hb hts cm_X8_append_0_0 tyX8 tyX8_ok nmX8 hown hK hP hD hS 0 rfl rfl 0 (by decide) (hts _ (dmem (j := 0) rfl)) (fun _ h9 => h9) rfl (by decide +kernel) rfl rfl (Nat.le_of_ble_eq_true rfl) dX8_append_40 (fun H locs => setW (ws' := [(h0, .inr (8, [.int 1, .ref h0_1, .ref h0_2, .int 0])), (h0_1, .inl (cI, 400, .inl (upd fb 0 x2)))]) rfl (fun hP hD hS => ?_))
  refine lv_iinc (v := 16) (lv' := [(2, .int 16), (0, .ref h0), (1, .int x)]) hx hb dX8_append_43 hl (k := 0) rfl (by decide) (by decide) rfl (fun ls hl => ?_)
  refine lv_goto (tgt := 3) hx hb dX8_append_46 (by decide) ?_
  refine lv_iload_n hx hb dX8_append_3 rfl (lv_at hl 0 rfl) ?_
  refine lv_if_lt (tgt := 49) hx hb dX8_append_4 (by decide) (fun c => absurd c (by decide)) (fun _ => ?_)
  refine lv_aload_n hx hb dX8_append_7 rfl (lv_at hl 1 rfl) ?_
  refine va_get (D := G) (ci := 8) (v := .int 1) (C := RX8) (T := TX8) (N := 4) hx hb hts cm_X8_append_0_0 hown hK hP 0 rfl rfl 0 (by decide) (hts _ (dmem (j := 0) rfl)) (fun _ h9 => h9) rfl dX8_append_8 ?_
  refine lv_sipush (v := 400) hx hb dX8_append_11 (by decide) ?_
  refine lv_icmp_ge (tgt := 49) hx hb dX8_append_14 (by decide) (fun c => absurd c (by decide)) (fun _ => ?_)
  refine lv_aload_n hx hb dX8_append_17 rfl (lv_at hl 1 rfl) ?_
  refine va_get (D := G) (ci := 8) (v := .ref h0_1) (C := RX8) (T := TX8) (N := 4) hx hb hts cm_X8_append_0_0 hown hK hP 0 rfl rfl 1 (by decide) (hts _ (dmem (j := 1) rfl)) (fun _ h9 => h9) rfl dX8_append_18 ?_
  refine lv_aload_n hx hb dX8_append_21 rfl (lv_at hl 1 rfl) ?_
  refine va_get (D := G) (ci := 8) (v := .int 1) (C := RX8) (T := TX8) (N := 4) hx hb hts cm_X8_append_0_0 hown hK hP 0 rfl rfl 0 (by decide) (hts _ (dmem (j := 0) rfl)) (fun _ h9 => h9) rfl dX8_append_22 ?_
  refine lv_iload_n hx hb dX8_append_25 rfl (lv_at hl 2 rfl) ?_
  refine lv_iload_n hx hb dX8_append_26 rfl (lv_at hl 0 rfl) ?_
  refine lv_iushr hx hb dX8_append_27 rfl ?_
  refine lv_topi (fun x4 ex4 => ?_)
  refine lv_sipush (v := 255) hx hb dX8_append_28 (by decide) ?_
  refine lv_iand hx hb dX8_append_31 ?_
  refine lv_topi (fun x5 ex5 => ?_)
  refine va_iast hx hb hK hP hD hS 1 0 rfl rfl (vp_in_iff.mpr (by decide)) dX8_append_32 (fun H locs => setW (ws' := [(h0, .inr (8, [.int 1, .ref h0_1, .ref h0_2, .int 0])), (h0_1, .inl (cI, 400, .inl (upd (upd fb 0 x2) 1 x5)))]) rfl (fun hP hD hS => ?_))
  refine lv_aload_n hx hb dX8_append_33 rfl (lv_at hl 1 rfl) ?_
  refine lv_dup hx hb dX8_append_34 rfl ?_
  refine va_get (D := G) (ci := 8) (v := .int 1) (C := RX8) (T := TX8) (N := 4) hx hb hts cm_X8_append_0_0 hown hK hP 0 rfl rfl 0 (by decide) (hts _ (dmem (j := 0) rfl)) (fun _ h9 => h9) rfl dX8_append_35 ?_
  refine lv_iconst (v := 1) hx hb dX8_append_38 (by decide) ?_
  refine lv_iadd hx hb dX8_append_39 ?_
  refine lv_topi (fun x6 ex6 => ?_)
  obtain rfl : 2 = x6 := (ex6.trans (by decide)).symm
  refine va_put (D := G) (ci := 8) (v := .int 2) (ty := .int) (C := RX8) (T := TX8) (N := 4) hx hb hts cm_X8_append_0_0 tyX8 tyX8_ok nmX8 hown hK hP hD hS 0 rfl rfl 0 (by decide) (hts _ (dmem (j := 0) rfl)) (fun _ h9 => h9) rfl (by decide +kernel) rfl rfl (Nat.le_of_ble_eq_true rfl) dX8_append_40 (fun H locs => setW (ws' := [(h0, .inr (8, [.int 2, .ref h0_1, .ref h0_2, .int 0])), (h0_1, .inl (cI, 400, .inl (upd (upd fb 0 x2) 1 x5)))]) rfl (fun hP hD hS => ?_))
  refine lv_iinc (v := 8) (lv' := [(2, .int 8), (0, .ref h0), (1, .int x)]) hx hb dX8_append_43 hl (k := 0) rfl (by decide) (by decide) rfl (fun ls hl => ?_)
  refine lv_goto (tgt := 3) hx hb dX8_append_46 (by decide) ?_
  refine lv_iload_n hx hb dX8_append_3 rfl (lv_at hl 0 rfl) ?_
  refine lv_if_lt (tgt := 49) hx hb dX8_append_4 (by decide) (fun c => absurd c (by decide)) (fun _ => ?_)
  refine lv_aload_n hx hb dX8_append_7 rfl (lv_at hl 1 rfl) ?_
  refine va_get (D := G) (ci := 8) (v := .int 2) (C := RX8) (T := TX8) (N := 4) hx hb hts cm_X8_append_0_0 hown hK hP 0 rfl rfl 0 (by decide) (hts _ (dmem (j := 0) rfl)) (fun _ h9 => h9) rfl dX8_append_8 ?_
  refine lv_sipush (v := 400) hx hb dX8_append_11 (by decide) ?_
  refine lv_icmp_ge (tgt := 49) hx hb dX8_append_14 (by decide) (fun c => absurd c (by decide)) (fun _ => ?_)
  refine lv_aload_n hx hb dX8_append_17 rfl (lv_at hl 1 rfl) ?_
  refine va_get (D := G) (ci := 8) (v := .ref h0_1) (C := RX8) (T := TX8) (N := 4) hx hb hts cm_X8_append_0_0 hown hK hP 0 rfl rfl 1 (by decide) (hts _ (dmem (j := 1) rfl)) (fun _ h9 => h9) rfl dX8_append_18 ?_
  refine lv_aload_n hx hb dX8_append_21 rfl (lv_at hl 1 rfl) ?_
  refine va_get (D := G) (ci := 8) (v := .int 2) (C := RX8) (T := TX8) (N := 4) hx hb hts cm_X8_append_0_0 hown hK hP 0 rfl rfl 0 (by decide) (hts _ (dmem (j := 0) rfl)) (fun _ h9 => h9) rfl dX8_append_22 ?_
  refine lv_iload_n hx hb dX8_append_25 rfl (lv_at hl 2 rfl) ?_
  refine lv_iload_n hx hb dX8_append_26 rfl (lv_at hl 0 rfl) ?_
  refine lv_iushr hx hb dX8_append_27 rfl ?_
  refine lv_topi (fun x7 ex7 => ?_)
  refine lv_sipush (v := 255) hx hb dX8_append_28 (by decide) ?_
  refine lv_iand hx hb dX8_append_31 ?_
  refine lv_topi (fun x8 ex8 => ?_)
  refine va_iast hx hb hK hP hD hS 1 0 rfl rfl (vp_in_iff.mpr (by decide)) dX8_append_32 (fun H locs => setW (ws' := [(h0, .inr (8, [.int 2, .ref h0_1, .ref h0_2, .int 0])), (h0_1, .inl (cI, 400, .inl (upd (upd (upd fb 0 x2) 1 x5) 2 x8)))]) rfl (fun hP hD hS => ?_))
  refine lv_aload_n hx hb dX8_append_33 rfl (lv_at hl 1 rfl) ?_
  refine lv_dup hx hb dX8_append_34 rfl ?_
  refine va_get (D := G) (ci := 8) (v := .int 2) (C := RX8) (T := TX8) (N := 4) hx hb hts cm_X8_append_0_0 hown hK hP 0 rfl rfl 0 (by decide) (hts _ (dmem (j := 0) rfl)) (fun _ h9 => h9) rfl dX8_append_35 ?_
  refine lv_iconst (v := 1) hx hb dX8_append_38 (by decide) ?_
  refine lv_iadd hx hb dX8_append_39 ?_
  refine lv_topi (fun x9 ex9 => ?_)
  obtain rfl : 3 = x9 := (ex9.trans (by decide)).symm
  refine va_put (D := G) (ci := 8) (v := .int 3) (ty := .int) (C := RX8) (T := TX8) (N := 4) hx hb hts cm_X8_append_0_0 tyX8 tyX8_ok nmX8 hown hK hP hD hS 0 rfl rfl 0 (by decide) (hts _ (dmem (j := 0) rfl)) (fun _ h9 => h9) rfl (by decide +kernel) rfl rfl (Nat.le_of_ble_eq_true rfl) dX8_append_40 (fun H locs => setW (ws' := [(h0, .inr (8, [.int 3, .ref h0_1, .ref h0_2, .int 0])), (h0_1, .inl (cI, 400, .inl (upd (upd (upd fb 0 x2) 1 x5) 2 x8)))]) rfl (fun hP hD hS => ?_))
  refine lv_iinc (v := 0) (lv' := [(2, .int 0), (0, .ref h0), (1, .int x)]) hx hb dX8_append_43 hl (k := 0) rfl (by decide) (by decide) rfl (fun ls hl => ?_)
  refine lv_goto (tgt := 3) hx hb dX8_append_46 (by decide) ?_
  refine lv_iload_n hx hb dX8_append_3 rfl (lv_at hl 0 rfl) ?_
  refine lv_if_lt (tgt := 49) hx hb dX8_append_4 (by decide) (fun c => absurd c (by decide)) (fun _ => ?_)
  refine lv_aload_n hx hb dX8_append_7 rfl (lv_at hl 1 rfl) ?_
  refine va_get (D := G) (ci := 8) (v := .int 3) (C := RX8) (T := TX8) (N := 4) hx hb hts cm_X8_append_0_0 hown hK hP 0 rfl rfl 0 (by decide) (hts _ (dmem (j := 0) rfl)) (fun _ h9 => h9) rfl dX8_append_8 ?_
  refine lv_sipush (v := 400) hx hb dX8_append_11 (by decide) ?_
  refine lv_icmp_ge (tgt := 49) hx hb dX8_append_14 (by decide) (fun c => absurd c (by decide)) (fun _ => ?_)
  refine lv_aload_n hx hb dX8_append_17 rfl (lv_at hl 1 rfl) ?_
  refine va_get (D := G) (ci := 8) (v := .ref h0_1) (C := RX8) (T := TX8) (N := 4) hx hb hts cm_X8_append_0_0 hown hK hP 0 rfl rfl 1 (by decide) (hts _ (dmem (j := 1) rfl)) (fun _ h9 => h9) rfl dX8_append_18 ?_
  refine lv_aload_n hx hb dX8_append_21 rfl (lv_at hl 1 rfl) ?_
  refine va_get (D := G) (ci := 8) (v := .int 3) (C := RX8) (T := TX8) (N := 4) hx hb hts cm_X8_append_0_0 hown hK hP 0 rfl rfl 0 (by decide) (hts _ (dmem (j := 0) rfl)) (fun _ h9 => h9) rfl dX8_append_22 ?_
  refine lv_iload_n hx hb dX8_append_25 rfl (lv_at hl 2 rfl) ?_
  refine lv_iload_n hx hb dX8_append_26 rfl (lv_at hl 0 rfl) ?_
  refine lv_iushr hx hb dX8_append_27 rfl ?_
  refine lv_topi (fun x10 ex10 => ?_)
  refine lv_sipush (v := 255) hx hb dX8_append_28 (by decide) ?_
  refine lv_iand hx hb dX8_append_31 ?_
  refine lv_topi (fun x11 ex11 => ?_)
  refine va_iast hx hb hK hP hD hS 1 0 rfl rfl (vp_in_iff.mpr (by decide)) dX8_append_32 (fun H locs => setW (ws' := [(h0, .inr (8, [.int 3, .ref h0_1, .ref h0_2, .int 0])), (h0_1, .inl (cI, 400, .inl (upd (upd (upd (upd fb 0 x2) 1 x5) 2 x8) 3 x11)))]) rfl (fun hP hD hS => ?_))
  refine lv_aload_n hx hb dX8_append_33 rfl (lv_at hl 1 rfl) ?_
  refine lv_dup hx hb dX8_append_34 rfl ?_
  refine va_get (D := G) (ci := 8) (v := .int 3) (C := RX8) (T := TX8) (N := 4) hx hb hts cm_X8_append_0_0 hown hK hP 0 rfl rfl 0 (by decide) (hts _ (dmem (j := 0) rfl)) (fun _ h9 => h9) rfl dX8_append_35 ?_
  refine lv_iconst (v := 1) hx hb dX8_append_38 (by decide) ?_
  refine lv_iadd hx hb dX8_append_39 ?_
  refine lv_topi (fun x12 ex12 => ?_)
  obtain rfl : 4 = x12 := (ex12.trans (by decide)).symm
  refine va_put (D := G) (ci := 8) (v := .int 4) (ty := .int) (C := RX8) (T := TX8) (N := 4) hx hb hts cm_X8_append_0_0 tyX8 tyX8_ok nmX8 hown hK hP hD hS 0 rfl rfl 0 (by decide) (hts _ (dmem (j := 0) rfl)) (fun _ h9 => h9) rfl (by decide +kernel) rfl rfl (Nat.le_of_ble_eq_true rfl) dX8_append_40 (fun H locs => setW (ws' := [(h0, .inr (8, [.int 4, .ref h0_1, .ref h0_2, .int 0])), (h0_1, .inl (cI, 400, .inl (upd (upd (upd (upd fb 0 x2) 1 x5) 2 x8) 3 x11)))]) rfl (fun hP hD hS => ?_))
  refine lv_iinc (v := (-8)) (lv' := [(2, .int (-8)), (0, .ref h0), (1, .int x)]) hx hb dX8_append_43 hl (k := 0) rfl (by decide) (by decide) rfl (fun ls hl => ?_)
  refine lv_goto (tgt := 3) hx hb dX8_append_46 (by decide) ?_
  refine lv_iload_n hx hb dX8_append_3 rfl (lv_at hl 0 rfl) ?_
  refine lv_if_lt (tgt := 49) hx hb dX8_append_4 (by decide) (fun _ => ?_) (fun c => absurd c (by decide))
  exact retV hx hb hr hlocks rfl hP hD hS (fun _ => 0) (fun k => match k with | 0 => (upd (upd (upd (upd fb 0 x2) 1 x5) 2 x8) 3 x11) | _ => fun _ => 0) [0, 1] (by decide +kernel) rfl dX8_append_49
def d_X8_append_4 : List Cond := [Cond.fieldLink RX8 19 "NoRent$Tape" "length" "I", Cond.fieldLink RX8 9 "NoRent$Tape" "bytes" "[I"]
def v_X8_append_4 : List Cond := Cond.code yX8_append cX8_append 3 none :: (d_X8_append_4 ++ (wsX80 ++ ([] : List Cond)))
theorem cm_X8_append_4_0 : ∀ w ∈ wsX80, w ∈ v_X8_append_4 := fun _ h => List.mem_cons_of_mem _ (List.mem_append_right _ (List.mem_append_left _ h))
theorem gd_X8_append_4 : Gd v_X8_append_4 := gd_mk (by decide +kernel) (gd_app gd_X8 gd_nil)
set_option maxHeartbeats 4000000 in
set_option maxRecDepth 100000 in
theorem c_X8_append_4 (l : Launch) (G : va_G) (cI cJ cZ cD cR cT : ClassId) (h0 : Nat) (x : Int32) (h0_1 : Nat) (h0_2 : Nat) (fb : Nat → Int32) (sz : Nat) : Met l yX8_append v_X8_append_4 ({ frames := 1, cells := 0, slots := 0, locals := 40 }) (va_Pc [.ref h0, .int x] (PreW G (tys6 cI cJ cZ cD cR cT) [(h0, .inr (8, [.int 4, .ref h0_1, .ref h0_2, .int 0])), (h0_1, .inl (cI, 400, .inl fb))] sz)) (QW RV G (va_A [(h0, .inr (8, [.int 4, .ref h0_1, .ref h0_2, .int 0])), (h0_1, .inl (cI, 400, .inl fb))] sz) (fun q g => [(h0, .inr (8, [.int 8, .ref h0_1, .ref h0_2, .int 0])), (h0_1, .inl (cI, 400, .inl (g 0)))])) 0 0 (va_A [(h0, .inr (8, [.int 4, .ref h0_1, .ref h0_2, .int 0])), (h0_1, .inl (cI, 400, .inl fb))] sz) := by
  refine metW (cc := cX8_append) (maxL := 3) (ret := none) (by decide) rfl (Nat.le_of_ble_eq_true rfl) ?_
  intro p e s m below meth c A ls hx hb hr hml hown hts hlocks hin hKK hP hD hA hS hl
  have hK := hKK.1
  have hown : s.vm.findClass RX8 = some m.cls := hown
  have hl : lv_has ls 3 [(0, .ref h0), (1, .int x)] := hl
  have hP : va_P G vwCl [(h0, .inr (8, [.int 4, .ref h0_1, .ref h0_2, .int 0])), (h0_1, .inl (cI, 400, .inl fb))] s.heap := hP
  have hD : va_D A [(h0, .inr (8, [.int 4, .ref h0_1, .ref h0_2, .int 0])), (h0_1, .inl (cI, 400, .inl fb))] := hD
  refine lv_bipush (v := 24) hx hb dX8_append_0 (by decide) ?_
  refine lv_istore_n (lv' := [(2, .int 24), (0, .ref h0), (1, .int x)]) hx hb dX8_append_2 rfl hl (by decide) rfl (fun ls hl => ?_)
  refine lv_iload_n hx hb dX8_append_3 rfl (lv_at hl 0 rfl) ?_
  refine lv_if_lt (tgt := 49) hx hb dX8_append_4 (by decide) (fun c => absurd c (by decide)) (fun _ => ?_)
  refine lv_aload_n hx hb dX8_append_7 rfl (lv_at hl 1 rfl) ?_
  refine va_get (D := G) (ci := 8) (v := .int 4) (C := RX8) (T := TX8) (N := 4) hx hb hts cm_X8_append_4_0 hown hK hP 0 rfl rfl 0 (by decide) (hts _ (dmem (j := 0) rfl)) (fun _ h9 => h9) rfl dX8_append_8 ?_
  refine lv_sipush (v := 400) hx hb dX8_append_11 (by decide) ?_
  refine lv_icmp_ge (tgt := 49) hx hb dX8_append_14 (by decide) (fun c => absurd c (by decide)) (fun _ => ?_)
  refine lv_aload_n hx hb dX8_append_17 rfl (lv_at hl 1 rfl) ?_
  refine va_get (D := G) (ci := 8) (v := .ref h0_1) (C := RX8) (T := TX8) (N := 4) hx hb hts cm_X8_append_4_0 hown hK hP 0 rfl rfl 1 (by decide) (hts _ (dmem (j := 1) rfl)) (fun _ h9 => h9) rfl dX8_append_18 ?_
  refine lv_aload_n hx hb dX8_append_21 rfl (lv_at hl 1 rfl) ?_
  refine va_get (D := G) (ci := 8) (v := .int 4) (C := RX8) (T := TX8) (N := 4) hx hb hts cm_X8_append_4_0 hown hK hP 0 rfl rfl 0 (by decide) (hts _ (dmem (j := 0) rfl)) (fun _ h9 => h9) rfl dX8_append_22 ?_
  refine lv_iload_n hx hb dX8_append_25 rfl (lv_at hl 2 rfl) ?_
  refine lv_iload_n hx hb dX8_append_26 rfl (lv_at hl 0 rfl) ?_
  refine lv_iushr hx hb dX8_append_27 rfl ?_
  refine lv_topi (fun x1 ex1 => ?_)
  refine lv_sipush (v := 255) hx hb dX8_append_28 (by decide) ?_
  refine lv_iand hx hb dX8_append_31 ?_
  refine lv_topi (fun x2 ex2 => ?_)
  refine va_iast hx hb hK hP hD hS 1 0 rfl rfl (vp_in_iff.mpr (by decide)) dX8_append_32 (fun H locs => setW (ws' := [(h0, .inr (8, [.int 4, .ref h0_1, .ref h0_2, .int 0])), (h0_1, .inl (cI, 400, .inl (upd fb 4 x2)))]) rfl (fun hP hD hS => ?_))
  refine lv_aload_n hx hb dX8_append_33 rfl (lv_at hl 1 rfl) ?_
  refine lv_dup hx hb dX8_append_34 rfl ?_
  refine va_get (D := G) (ci := 8) (v := .int 4) (C := RX8) (T := TX8) (N := 4) hx hb hts cm_X8_append_4_0 hown hK hP 0 rfl rfl 0 (by decide) (hts _ (dmem (j := 0) rfl)) (fun _ h9 => h9) rfl dX8_append_35 ?_
  refine lv_iconst (v := 1) hx hb dX8_append_38 (by decide) ?_
  refine lv_iadd hx hb dX8_append_39 ?_
  refine lv_topi (fun x3 ex3 => ?_)
  obtain rfl : 5 = x3 := (ex3.trans (by decide)).symm
  refine va_put (D := G) (ci := 8) (v := .int 5) (ty := .int) (C := RX8) (T := TX8) (N := 4) hx hb hts cm_X8_append_4_0 tyX8 tyX8_ok nmX8 hown hK hP hD hS 0 rfl rfl 0 (by decide) (hts _ (dmem (j := 0) rfl)) (fun _ h9 => h9) rfl (by decide +kernel) rfl rfl (Nat.le_of_ble_eq_true rfl) dX8_append_40 (fun H locs => setW (ws' := [(h0, .inr (8, [.int 5, .ref h0_1, .ref h0_2, .int 0])), (h0_1, .inl (cI, 400, .inl (upd fb 4 x2)))]) rfl (fun hP hD hS => ?_))
  refine lv_iinc (v := 16) (lv' := [(2, .int 16), (0, .ref h0), (1, .int x)]) hx hb dX8_append_43 hl (k := 0) rfl (by decide) (by decide) rfl (fun ls hl => ?_)
  refine lv_goto (tgt := 3) hx hb dX8_append_46 (by decide) ?_
  refine lv_iload_n hx hb dX8_append_3 rfl (lv_at hl 0 rfl) ?_
  refine lv_if_lt (tgt := 49) hx hb dX8_append_4 (by decide) (fun c => absurd c (by decide)) (fun _ => ?_)
  refine lv_aload_n hx hb dX8_append_7 rfl (lv_at hl 1 rfl) ?_
  refine va_get (D := G) (ci := 8) (v := .int 5) (C := RX8) (T := TX8) (N := 4) hx hb hts cm_X8_append_4_0 hown hK hP 0 rfl rfl 0 (by decide) (hts _ (dmem (j := 0) rfl)) (fun _ h9 => h9) rfl dX8_append_8 ?_
  refine lv_sipush (v := 400) hx hb dX8_append_11 (by decide) ?_
  refine lv_icmp_ge (tgt := 49) hx hb dX8_append_14 (by decide) (fun c => absurd c (by decide)) (fun _ => ?_)
  refine lv_aload_n hx hb dX8_append_17 rfl (lv_at hl 1 rfl) ?_
  refine va_get (D := G) (ci := 8) (v := .ref h0_1) (C := RX8) (T := TX8) (N := 4) hx hb hts cm_X8_append_4_0 hown hK hP 0 rfl rfl 1 (by decide) (hts _ (dmem (j := 1) rfl)) (fun _ h9 => h9) rfl dX8_append_18 ?_
  refine lv_aload_n hx hb dX8_append_21 rfl (lv_at hl 1 rfl) ?_
  refine va_get (D := G) (ci := 8) (v := .int 5) (C := RX8) (T := TX8) (N := 4) hx hb hts cm_X8_append_4_0 hown hK hP 0 rfl rfl 0 (by decide) (hts _ (dmem (j := 0) rfl)) (fun _ h9 => h9) rfl dX8_append_22 ?_
  refine lv_iload_n hx hb dX8_append_25 rfl (lv_at hl 2 rfl) ?_
  refine lv_iload_n hx hb dX8_append_26 rfl (lv_at hl 0 rfl) ?_
  refine lv_iushr hx hb dX8_append_27 rfl ?_
  refine lv_topi (fun x4 ex4 => ?_)
  refine lv_sipush (v := 255) hx hb dX8_append_28 (by decide) ?_
  refine lv_iand hx hb dX8_append_31 ?_
  refine lv_topi (fun x5 ex5 => ?_)
  refine va_iast hx hb hK hP hD hS 1 0 rfl rfl (vp_in_iff.mpr (by decide)) dX8_append_32 (fun H locs => setW (ws' := [(h0, .inr (8, [.int 5, .ref h0_1, .ref h0_2, .int 0])), (h0_1, .inl (cI, 400, .inl (upd (upd fb 4 x2) 5 x5)))]) rfl (fun hP hD hS => ?_))
  refine lv_aload_n hx hb dX8_append_33 rfl (lv_at hl 1 rfl) ?_
  refine lv_dup hx hb dX8_append_34 rfl ?_
  refine va_get (D := G) (ci := 8) (v := .int 5) (C := RX8) (T := TX8) (N := 4) hx hb hts cm_X8_append_4_0 hown hK hP 0 rfl rfl 0 (by decide) (hts _ (dmem (j := 0) rfl)) (fun _ h9 => h9) rfl dX8_append_35 ?_
  refine lv_iconst (v := 1) hx hb dX8_append_38 (by decide) ?_
  refine lv_iadd hx hb dX8_append_39 ?_
  refine lv_topi (fun x6 ex6 => ?_)
  obtain rfl : 6 = x6 := (ex6.trans (by decide)).symm
  refine va_put (D := G) (ci := 8) (v := .int 6) (ty := .int) (C := RX8) (T := TX8) (N := 4) hx hb hts cm_X8_append_4_0 tyX8 tyX8_ok nmX8 hown hK hP hD hS 0 rfl rfl 0 (by decide) (hts _ (dmem (j := 0) rfl)) (fun _ h9 => h9) rfl (by decide +kernel) rfl rfl (Nat.le_of_ble_eq_true rfl) dX8_append_40 (fun H locs => setW (ws' := [(h0, .inr (8, [.int 6, .ref h0_1, .ref h0_2, .int 0])), (h0_1, .inl (cI, 400, .inl (upd (upd fb 4 x2) 5 x5)))]) rfl (fun hP hD hS => ?_))
  refine lv_iinc (v := 8) (lv' := [(2, .int 8), (0, .ref h0), (1, .int x)]) hx hb dX8_append_43 hl (k := 0) rfl (by decide) (by decide) rfl (fun ls hl => ?_)
  refine lv_goto (tgt := 3) hx hb dX8_append_46 (by decide) ?_
  refine lv_iload_n hx hb dX8_append_3 rfl (lv_at hl 0 rfl) ?_
  refine lv_if_lt (tgt := 49) hx hb dX8_append_4 (by decide) (fun c => absurd c (by decide)) (fun _ => ?_)
  refine lv_aload_n hx hb dX8_append_7 rfl (lv_at hl 1 rfl) ?_
  refine va_get (D := G) (ci := 8) (v := .int 6) (C := RX8) (T := TX8) (N := 4) hx hb hts cm_X8_append_4_0 hown hK hP 0 rfl rfl 0 (by decide) (hts _ (dmem (j := 0) rfl)) (fun _ h9 => h9) rfl dX8_append_8 ?_
  refine lv_sipush (v := 400) hx hb dX8_append_11 (by decide) ?_
  refine lv_icmp_ge (tgt := 49) hx hb dX8_append_14 (by decide) (fun c => absurd c (by decide)) (fun _ => ?_)
  refine lv_aload_n hx hb dX8_append_17 rfl (lv_at hl 1 rfl) ?_
  refine va_get (D := G) (ci := 8) (v := .ref h0_1) (C := RX8) (T := TX8) (N := 4) hx hb hts cm_X8_append_4_0 hown hK hP 0 rfl rfl 1 (by decide) (hts _ (dmem (j := 1) rfl)) (fun _ h9 => h9) rfl dX8_append_18 ?_
  refine lv_aload_n hx hb dX8_append_21 rfl (lv_at hl 1 rfl) ?_
  refine va_get (D := G) (ci := 8) (v := .int 6) (C := RX8) (T := TX8) (N := 4) hx hb hts cm_X8_append_4_0 hown hK hP 0 rfl rfl 0 (by decide) (hts _ (dmem (j := 0) rfl)) (fun _ h9 => h9) rfl dX8_append_22 ?_
  refine lv_iload_n hx hb dX8_append_25 rfl (lv_at hl 2 rfl) ?_
  refine lv_iload_n hx hb dX8_append_26 rfl (lv_at hl 0 rfl) ?_
  refine lv_iushr hx hb dX8_append_27 rfl ?_
  refine lv_topi (fun x7 ex7 => ?_)
  refine lv_sipush (v := 255) hx hb dX8_append_28 (by decide) ?_
  refine lv_iand hx hb dX8_append_31 ?_
  refine lv_topi (fun x8 ex8 => ?_)
  refine va_iast hx hb hK hP hD hS 1 0 rfl rfl (vp_in_iff.mpr (by decide)) dX8_append_32 (fun H locs => setW (ws' := [(h0, .inr (8, [.int 6, .ref h0_1, .ref h0_2, .int 0])), (h0_1, .inl (cI, 400, .inl (upd (upd (upd fb 4 x2) 5 x5) 6 x8)))]) rfl (fun hP hD hS => ?_))
  refine lv_aload_n hx hb dX8_append_33 rfl (lv_at hl 1 rfl) ?_
  refine lv_dup hx hb dX8_append_34 rfl ?_
  refine va_get (D := G) (ci := 8) (v := .int 6) (C := RX8) (T := TX8) (N := 4) hx hb hts cm_X8_append_4_0 hown hK hP 0 rfl rfl 0 (by decide) (hts _ (dmem (j := 0) rfl)) (fun _ h9 => h9) rfl dX8_append_35 ?_
  refine lv_iconst (v := 1) hx hb dX8_append_38 (by decide) ?_
  refine lv_iadd hx hb dX8_append_39 ?_
  refine lv_topi (fun x9 ex9 => ?_)
  obtain rfl : 7 = x9 := (ex9.trans (by decide)).symm
  refine va_put (D := G) (ci := 8) (v := .int 7) (ty := .int) (C := RX8) (T := TX8) (N := 4) hx hb hts cm_X8_append_4_0 tyX8 tyX8_ok nmX8 hown hK hP hD hS 0 rfl rfl 0 (by decide) (hts _ (dmem (j := 0) rfl)) (fun _ h9 => h9) rfl (by decide +kernel) rfl rfl (Nat.le_of_ble_eq_true rfl) dX8_append_40 (fun H locs => setW (ws' := [(h0, .inr (8, [.int 7, .ref h0_1, .ref h0_2, .int 0])), (h0_1, .inl (cI, 400, .inl (upd (upd (upd fb 4 x2) 5 x5) 6 x8)))]) rfl (fun hP hD hS => ?_))
  refine lv_iinc (v := 0) (lv' := [(2, .int 0), (0, .ref h0), (1, .int x)]) hx hb dX8_append_43 hl (k := 0) rfl (by decide) (by decide) rfl (fun ls hl => ?_)
  refine lv_goto (tgt := 3) hx hb dX8_append_46 (by decide) ?_
  refine lv_iload_n hx hb dX8_append_3 rfl (lv_at hl 0 rfl) ?_
  refine lv_if_lt (tgt := 49) hx hb dX8_append_4 (by decide) (fun c => absurd c (by decide)) (fun _ => ?_)
  refine lv_aload_n hx hb dX8_append_7 rfl (lv_at hl 1 rfl) ?_
  refine va_get (D := G) (ci := 8) (v := .int 7) (C := RX8) (T := TX8) (N := 4) hx hb hts cm_X8_append_4_0 hown hK hP 0 rfl rfl 0 (by decide) (hts _ (dmem (j := 0) rfl)) (fun _ h9 => h9) rfl dX8_append_8 ?_
  refine lv_sipush (v := 400) hx hb dX8_append_11 (by decide) ?_
  refine lv_icmp_ge (tgt := 49) hx hb dX8_append_14 (by decide) (fun c => absurd c (by decide)) (fun _ => ?_)
  refine lv_aload_n hx hb dX8_append_17 rfl (lv_at hl 1 rfl) ?_
  refine va_get (D := G) (ci := 8) (v := .ref h0_1) (C := RX8) (T := TX8) (N := 4) hx hb hts cm_X8_append_4_0 hown hK hP 0 rfl rfl 1 (by decide) (hts _ (dmem (j := 1) rfl)) (fun _ h9 => h9) rfl dX8_append_18 ?_
  refine lv_aload_n hx hb dX8_append_21 rfl (lv_at hl 1 rfl) ?_
  refine va_get (D := G) (ci := 8) (v := .int 7) (C := RX8) (T := TX8) (N := 4) hx hb hts cm_X8_append_4_0 hown hK hP 0 rfl rfl 0 (by decide) (hts _ (dmem (j := 0) rfl)) (fun _ h9 => h9) rfl dX8_append_22 ?_
  refine lv_iload_n hx hb dX8_append_25 rfl (lv_at hl 2 rfl) ?_
  refine lv_iload_n hx hb dX8_append_26 rfl (lv_at hl 0 rfl) ?_
  refine lv_iushr hx hb dX8_append_27 rfl ?_
  refine lv_topi (fun x10 ex10 => ?_)
  refine lv_sipush (v := 255) hx hb dX8_append_28 (by decide) ?_
  refine lv_iand hx hb dX8_append_31 ?_
  refine lv_topi (fun x11 ex11 => ?_)
  refine va_iast hx hb hK hP hD hS 1 0 rfl rfl (vp_in_iff.mpr (by decide)) dX8_append_32 (fun H locs => setW (ws' := [(h0, .inr (8, [.int 7, .ref h0_1, .ref h0_2, .int 0])), (h0_1, .inl (cI, 400, .inl (upd (upd (upd (upd fb 4 x2) 5 x5) 6 x8) 7 x11)))]) rfl (fun hP hD hS => ?_))
  refine lv_aload_n hx hb dX8_append_33 rfl (lv_at hl 1 rfl) ?_
  refine lv_dup hx hb dX8_append_34 rfl ?_
  refine va_get (D := G) (ci := 8) (v := .int 7) (C := RX8) (T := TX8) (N := 4) hx hb hts cm_X8_append_4_0 hown hK hP 0 rfl rfl 0 (by decide) (hts _ (dmem (j := 0) rfl)) (fun _ h9 => h9) rfl dX8_append_35 ?_
  refine lv_iconst (v := 1) hx hb dX8_append_38 (by decide) ?_
  refine lv_iadd hx hb dX8_append_39 ?_
  refine lv_topi (fun x12 ex12 => ?_)
  obtain rfl : 8 = x12 := (ex12.trans (by decide)).symm
  refine va_put (D := G) (ci := 8) (v := .int 8) (ty := .int) (C := RX8) (T := TX8) (N := 4) hx hb hts cm_X8_append_4_0 tyX8 tyX8_ok nmX8 hown hK hP hD hS 0 rfl rfl 0 (by decide) (hts _ (dmem (j := 0) rfl)) (fun _ h9 => h9) rfl (by decide +kernel) rfl rfl (Nat.le_of_ble_eq_true rfl) dX8_append_40 (fun H locs => setW (ws' := [(h0, .inr (8, [.int 8, .ref h0_1, .ref h0_2, .int 0])), (h0_1, .inl (cI, 400, .inl (upd (upd (upd (upd fb 4 x2) 5 x5) 6 x8) 7 x11)))]) rfl (fun hP hD hS => ?_))
  refine lv_iinc (v := (-8)) (lv' := [(2, .int (-8)), (0, .ref h0), (1, .int x)]) hx hb dX8_append_43 hl (k := 0) rfl (by decide) (by decide) rfl (fun ls hl => ?_)
  refine lv_goto (tgt := 3) hx hb dX8_append_46 (by decide) ?_
  refine lv_iload_n hx hb dX8_append_3 rfl (lv_at hl 0 rfl) ?_
  refine lv_if_lt (tgt := 49) hx hb dX8_append_4 (by decide) (fun _ => ?_) (fun c => absurd c (by decide))
  exact retV hx hb hr hlocks rfl hP hD hS (fun _ => 0) (fun k => match k with | 0 => (upd (upd (upd (upd fb 4 x2) 5 x5) 6 x8) 7 x11) | _ => fun _ => 0) [0, 1] (by decide +kernel) rfl dX8_append_49
def d_X8_append_8 : List Cond := [Cond.fieldLink RX8 19 "NoRent$Tape" "length" "I", Cond.fieldLink RX8 9 "NoRent$Tape" "bytes" "[I"]
def v_X8_append_8 : List Cond := Cond.code yX8_append cX8_append 3 none :: (d_X8_append_8 ++ (wsX80 ++ ([] : List Cond)))
theorem cm_X8_append_8_0 : ∀ w ∈ wsX80, w ∈ v_X8_append_8 := fun _ h => List.mem_cons_of_mem _ (List.mem_append_right _ (List.mem_append_left _ h))
theorem gd_X8_append_8 : Gd v_X8_append_8 := gd_mk (by decide +kernel) (gd_app gd_X8 gd_nil)
set_option maxHeartbeats 4000000 in
set_option maxRecDepth 100000 in
theorem c_X8_append_8 (l : Launch) (G : va_G) (cI cJ cZ cD cR cT : ClassId) (h0 : Nat) (x : Int32) (h0_1 : Nat) (h0_2 : Nat) (fb : Nat → Int32) (sz : Nat) : Met l yX8_append v_X8_append_8 ({ frames := 1, cells := 0, slots := 0, locals := 40 }) (va_Pc [.ref h0, .int x] (PreW G (tys6 cI cJ cZ cD cR cT) [(h0, .inr (8, [.int 8, .ref h0_1, .ref h0_2, .int 0])), (h0_1, .inl (cI, 400, .inl fb))] sz)) (QW RV G (va_A [(h0, .inr (8, [.int 8, .ref h0_1, .ref h0_2, .int 0])), (h0_1, .inl (cI, 400, .inl fb))] sz) (fun q g => [(h0, .inr (8, [.int 12, .ref h0_1, .ref h0_2, .int 0])), (h0_1, .inl (cI, 400, .inl (g 0)))])) 0 0 (va_A [(h0, .inr (8, [.int 8, .ref h0_1, .ref h0_2, .int 0])), (h0_1, .inl (cI, 400, .inl fb))] sz) := by
  refine metW (cc := cX8_append) (maxL := 3) (ret := none) (by decide) rfl (Nat.le_of_ble_eq_true rfl) ?_
  intro p e s m below meth c A ls hx hb hr hml hown hts hlocks hin hKK hP hD hA hS hl
  have hK := hKK.1
  have hown : s.vm.findClass RX8 = some m.cls := hown
  have hl : lv_has ls 3 [(0, .ref h0), (1, .int x)] := hl
  have hP : va_P G vwCl [(h0, .inr (8, [.int 8, .ref h0_1, .ref h0_2, .int 0])), (h0_1, .inl (cI, 400, .inl fb))] s.heap := hP
  have hD : va_D A [(h0, .inr (8, [.int 8, .ref h0_1, .ref h0_2, .int 0])), (h0_1, .inl (cI, 400, .inl fb))] := hD
  refine lv_bipush (v := 24) hx hb dX8_append_0 (by decide) ?_
  refine lv_istore_n (lv' := [(2, .int 24), (0, .ref h0), (1, .int x)]) hx hb dX8_append_2 rfl hl (by decide) rfl (fun ls hl => ?_)
  refine lv_iload_n hx hb dX8_append_3 rfl (lv_at hl 0 rfl) ?_
  refine lv_if_lt (tgt := 49) hx hb dX8_append_4 (by decide) (fun c => absurd c (by decide)) (fun _ => ?_)
  refine lv_aload_n hx hb dX8_append_7 rfl (lv_at hl 1 rfl) ?_
  refine va_get (D := G) (ci := 8) (v := .int 8) (C := RX8) (T := TX8) (N := 4) hx hb hts cm_X8_append_8_0 hown hK hP 0 rfl rfl 0 (by decide) (hts _ (dmem (j := 0) rfl)) (fun _ h9 => h9) rfl dX8_append_8 ?_
  refine lv_sipush (v := 400) hx hb dX8_append_11 (by decide) ?_
  refine lv_icmp_ge (tgt := 49) hx hb dX8_append_14 (by decide) (fun c => absurd c (by decide)) (fun _ => ?_)
  refine lv_aload_n hx hb dX8_append_17 rfl (lv_at hl 1 rfl) ?_
  refine va_get (D := G) (ci := 8) (v := .ref h0_1) (C := RX8) (T := TX8) (N := 4) hx hb hts cm_X8_append_8_0 hown hK hP 0 rfl rfl 1 (by decide) (hts _ (dmem (j := 1) rfl)) (fun _ h9 => h9) rfl dX8_append_18 ?_
  refine lv_aload_n hx hb dX8_append_21 rfl (lv_at hl 1 rfl) ?_
  refine va_get (D := G) (ci := 8) (v := .int 8) (C := RX8) (T := TX8) (N := 4) hx hb hts cm_X8_append_8_0 hown hK hP 0 rfl rfl 0 (by decide) (hts _ (dmem (j := 0) rfl)) (fun _ h9 => h9) rfl dX8_append_22 ?_
  refine lv_iload_n hx hb dX8_append_25 rfl (lv_at hl 2 rfl) ?_
  refine lv_iload_n hx hb dX8_append_26 rfl (lv_at hl 0 rfl) ?_
  refine lv_iushr hx hb dX8_append_27 rfl ?_
  refine lv_topi (fun x1 ex1 => ?_)
  refine lv_sipush (v := 255) hx hb dX8_append_28 (by decide) ?_
  refine lv_iand hx hb dX8_append_31 ?_
  refine lv_topi (fun x2 ex2 => ?_)
  refine va_iast hx hb hK hP hD hS 1 0 rfl rfl (vp_in_iff.mpr (by decide)) dX8_append_32 (fun H locs => setW (ws' := [(h0, .inr (8, [.int 8, .ref h0_1, .ref h0_2, .int 0])), (h0_1, .inl (cI, 400, .inl (upd fb 8 x2)))]) rfl (fun hP hD hS => ?_))
  refine lv_aload_n hx hb dX8_append_33 rfl (lv_at hl 1 rfl) ?_
  refine lv_dup hx hb dX8_append_34 rfl ?_
  refine va_get (D := G) (ci := 8) (v := .int 8) (C := RX8) (T := TX8) (N := 4) hx hb hts cm_X8_append_8_0 hown hK hP 0 rfl rfl 0 (by decide) (hts _ (dmem (j := 0) rfl)) (fun _ h9 => h9) rfl dX8_append_35 ?_
  refine lv_iconst (v := 1) hx hb dX8_append_38 (by decide) ?_
  refine lv_iadd hx hb dX8_append_39 ?_
  refine lv_topi (fun x3 ex3 => ?_)
  obtain rfl : 9 = x3 := (ex3.trans (by decide)).symm
  refine va_put (D := G) (ci := 8) (v := .int 9) (ty := .int) (C := RX8) (T := TX8) (N := 4) hx hb hts cm_X8_append_8_0 tyX8 tyX8_ok nmX8 hown hK hP hD hS 0 rfl rfl 0 (by decide) (hts _ (dmem (j := 0) rfl)) (fun _ h9 => h9) rfl (by decide +kernel) rfl rfl (Nat.le_of_ble_eq_true rfl) dX8_append_40 (fun H locs => setW (ws' := [(h0, .inr (8, [.int 9, .ref h0_1, .ref h0_2, .int 0])), (h0_1, .inl (cI, 400, .inl (upd fb 8 x2)))]) rfl (fun hP hD hS => ?_))
  refine lv_iinc (v := 16) (lv' := [(2, .int 16), (0, .ref h0), (1, .int x)]) hx hb dX8_append_43 hl (k := 0) rfl (by decide) (by decide) rfl (fun ls hl => ?_)
  refine lv_goto (tgt := 3) hx hb dX8_append_46 (by decide) ?_
  refine lv_iload_n hx hb dX8_append_3 rfl (lv_at hl 0 rfl) ?_
  refine lv_if_lt (tgt := 49) hx hb dX8_append_4 (by decide) (fun c => absurd c (by decide)) (fun _ => ?_)
  refine lv_aload_n hx hb dX8_append_7 rfl (lv_at hl 1 rfl) ?_
  refine va_get (D := G) (ci := 8) (v := .int 9) (C := RX8) (T := TX8) (N := 4) hx hb hts cm_X8_append_8_0 hown hK hP 0 rfl rfl 0 (by decide) (hts _ (dmem (j := 0) rfl)) (fun _ h9 => h9) rfl dX8_append_8 ?_
  refine lv_sipush (v := 400) hx hb dX8_append_11 (by decide) ?_
  refine lv_icmp_ge (tgt := 49) hx hb dX8_append_14 (by decide) (fun c => absurd c (by decide)) (fun _ => ?_)
  refine lv_aload_n hx hb dX8_append_17 rfl (lv_at hl 1 rfl) ?_
  refine va_get (D := G) (ci := 8) (v := .ref h0_1) (C := RX8) (T := TX8) (N := 4) hx hb hts cm_X8_append_8_0 hown hK hP 0 rfl rfl 1 (by decide) (hts _ (dmem (j := 1) rfl)) (fun _ h9 => h9) rfl dX8_append_18 ?_
  refine lv_aload_n hx hb dX8_append_21 rfl (lv_at hl 1 rfl) ?_
  refine va_get (D := G) (ci := 8) (v := .int 9) (C := RX8) (T := TX8) (N := 4) hx hb hts cm_X8_append_8_0 hown hK hP 0 rfl rfl 0 (by decide) (hts _ (dmem (j := 0) rfl)) (fun _ h9 => h9) rfl dX8_append_22 ?_
  refine lv_iload_n hx hb dX8_append_25 rfl (lv_at hl 2 rfl) ?_
  refine lv_iload_n hx hb dX8_append_26 rfl (lv_at hl 0 rfl) ?_
  refine lv_iushr hx hb dX8_append_27 rfl ?_
  refine lv_topi (fun x4 ex4 => ?_)
  refine lv_sipush (v := 255) hx hb dX8_append_28 (by decide) ?_
  refine lv_iand hx hb dX8_append_31 ?_
  refine lv_topi (fun x5 ex5 => ?_)
  refine va_iast hx hb hK hP hD hS 1 0 rfl rfl (vp_in_iff.mpr (by decide)) dX8_append_32 (fun H locs => setW (ws' := [(h0, .inr (8, [.int 9, .ref h0_1, .ref h0_2, .int 0])), (h0_1, .inl (cI, 400, .inl (upd (upd fb 8 x2) 9 x5)))]) rfl (fun hP hD hS => ?_))
  refine lv_aload_n hx hb dX8_append_33 rfl (lv_at hl 1 rfl) ?_
  refine lv_dup hx hb dX8_append_34 rfl ?_
  refine va_get (D := G) (ci := 8) (v := .int 9) (C := RX8) (T := TX8) (N := 4) hx hb hts cm_X8_append_8_0 hown hK hP 0 rfl rfl 0 (by decide) (hts _ (dmem (j := 0) rfl)) (fun _ h9 => h9) rfl dX8_append_35 ?_
  refine lv_iconst (v := 1) hx hb dX8_append_38 (by decide) ?_
  refine lv_iadd hx hb dX8_append_39 ?_
  refine lv_topi (fun x6 ex6 => ?_)
  obtain rfl : 10 = x6 := (ex6.trans (by decide)).symm
  refine va_put (D := G) (ci := 8) (v := .int 10) (ty := .int) (C := RX8) (T := TX8) (N := 4) hx hb hts cm_X8_append_8_0 tyX8 tyX8_ok nmX8 hown hK hP hD hS 0 rfl rfl 0 (by decide) (hts _ (dmem (j := 0) rfl)) (fun _ h9 => h9) rfl (by decide +kernel) rfl rfl (Nat.le_of_ble_eq_true rfl) dX8_append_40 (fun H locs => setW (ws' := [(h0, .inr (8, [.int 10, .ref h0_1, .ref h0_2, .int 0])), (h0_1, .inl (cI, 400, .inl (upd (upd fb 8 x2) 9 x5)))]) rfl (fun hP hD hS => ?_))
  refine lv_iinc (v := 8) (lv' := [(2, .int 8), (0, .ref h0), (1, .int x)]) hx hb dX8_append_43 hl (k := 0) rfl (by decide) (by decide) rfl (fun ls hl => ?_)
  refine lv_goto (tgt := 3) hx hb dX8_append_46 (by decide) ?_
  refine lv_iload_n hx hb dX8_append_3 rfl (lv_at hl 0 rfl) ?_
  refine lv_if_lt (tgt := 49) hx hb dX8_append_4 (by decide) (fun c => absurd c (by decide)) (fun _ => ?_)
  refine lv_aload_n hx hb dX8_append_7 rfl (lv_at hl 1 rfl) ?_
  refine va_get (D := G) (ci := 8) (v := .int 10) (C := RX8) (T := TX8) (N := 4) hx hb hts cm_X8_append_8_0 hown hK hP 0 rfl rfl 0 (by decide) (hts _ (dmem (j := 0) rfl)) (fun _ h9 => h9) rfl dX8_append_8 ?_
  refine lv_sipush (v := 400) hx hb dX8_append_11 (by decide) ?_
  refine lv_icmp_ge (tgt := 49) hx hb dX8_append_14 (by decide) (fun c => absurd c (by decide)) (fun _ => ?_)
  refine lv_aload_n hx hb dX8_append_17 rfl (lv_at hl 1 rfl) ?_
  refine va_get (D := G) (ci := 8) (v := .ref h0_1) (C := RX8) (T := TX8) (N := 4) hx hb hts cm_X8_append_8_0 hown hK hP 0 rfl rfl 1 (by decide) (hts _ (dmem (j := 1) rfl)) (fun _ h9 => h9) rfl dX8_append_18 ?_
  refine lv_aload_n hx hb dX8_append_21 rfl (lv_at hl 1 rfl) ?_
  refine va_get (D := G) (ci := 8) (v := .int 10) (C := RX8) (T := TX8) (N := 4) hx hb hts cm_X8_append_8_0 hown hK hP 0 rfl rfl 0 (by decide) (hts _ (dmem (j := 0) rfl)) (fun _ h9 => h9) rfl dX8_append_22 ?_
  refine lv_iload_n hx hb dX8_append_25 rfl (lv_at hl 2 rfl) ?_
  refine lv_iload_n hx hb dX8_append_26 rfl (lv_at hl 0 rfl) ?_
  refine lv_iushr hx hb dX8_append_27 rfl ?_
  refine lv_topi (fun x7 ex7 => ?_)
  refine lv_sipush (v := 255) hx hb dX8_append_28 (by decide) ?_
  refine lv_iand hx hb dX8_append_31 ?_
  refine lv_topi (fun x8 ex8 => ?_)
  refine va_iast hx hb hK hP hD hS 1 0 rfl rfl (vp_in_iff.mpr (by decide)) dX8_append_32 (fun H locs => setW (ws' := [(h0, .inr (8, [.int 10, .ref h0_1, .ref h0_2, .int 0])), (h0_1, .inl (cI, 400, .inl (upd (upd (upd fb 8 x2) 9 x5) 10 x8)))]) rfl (fun hP hD hS => ?_))
  refine lv_aload_n hx hb dX8_append_33 rfl (lv_at hl 1 rfl) ?_
  refine lv_dup hx hb dX8_append_34 rfl ?_
  refine va_get (D := G) (ci := 8) (v := .int 10) (C := RX8) (T := TX8) (N := 4) hx hb hts cm_X8_append_8_0 hown hK hP 0 rfl rfl 0 (by decide) (hts _ (dmem (j := 0) rfl)) (fun _ h9 => h9) rfl dX8_append_35 ?_
  refine lv_iconst (v := 1) hx hb dX8_append_38 (by decide) ?_
  refine lv_iadd hx hb dX8_append_39 ?_
  refine lv_topi (fun x9 ex9 => ?_)
  obtain rfl : 11 = x9 := (ex9.trans (by decide)).symm
  refine va_put (D := G) (ci := 8) (v := .int 11) (ty := .int) (C := RX8) (T := TX8) (N := 4) hx hb hts cm_X8_append_8_0 tyX8 tyX8_ok nmX8 hown hK hP hD hS 0 rfl rfl 0 (by decide) (hts _ (dmem (j := 0) rfl)) (fun _ h9 => h9) rfl (by decide +kernel) rfl rfl (Nat.le_of_ble_eq_true rfl) dX8_append_40 (fun H locs => setW (ws' := [(h0, .inr (8, [.int 11, .ref h0_1, .ref h0_2, .int 0])), (h0_1, .inl (cI, 400, .inl (upd (upd (upd fb 8 x2) 9 x5) 10 x8)))]) rfl (fun hP hD hS => ?_))
  refine lv_iinc (v := 0) (lv' := [(2, .int 0), (0, .ref h0), (1, .int x)]) hx hb dX8_append_43 hl (k := 0) rfl (by decide) (by decide) rfl (fun ls hl => ?_)
  refine lv_goto (tgt := 3) hx hb dX8_append_46 (by decide) ?_
  refine lv_iload_n hx hb dX8_append_3 rfl (lv_at hl 0 rfl) ?_
  refine lv_if_lt (tgt := 49) hx hb dX8_append_4 (by decide) (fun c => absurd c (by decide)) (fun _ => ?_)
  refine lv_aload_n hx hb dX8_append_7 rfl (lv_at hl 1 rfl) ?_
  refine va_get (D := G) (ci := 8) (v := .int 11) (C := RX8) (T := TX8) (N := 4) hx hb hts cm_X8_append_8_0 hown hK hP 0 rfl rfl 0 (by decide) (hts _ (dmem (j := 0) rfl)) (fun _ h9 => h9) rfl dX8_append_8 ?_
  refine lv_sipush (v := 400) hx hb dX8_append_11 (by decide) ?_
  refine lv_icmp_ge (tgt := 49) hx hb dX8_append_14 (by decide) (fun c => absurd c (by decide)) (fun _ => ?_)
  refine lv_aload_n hx hb dX8_append_17 rfl (lv_at hl 1 rfl) ?_
  refine va_get (D := G) (ci := 8) (v := .ref h0_1) (C := RX8) (T := TX8) (N := 4) hx hb hts cm_X8_append_8_0 hown hK hP 0 rfl rfl 1 (by decide) (hts _ (dmem (j := 1) rfl)) (fun _ h9 => h9) rfl dX8_append_18 ?_
  refine lv_aload_n hx hb dX8_append_21 rfl (lv_at hl 1 rfl) ?_
  refine va_get (D := G) (ci := 8) (v := .int 11) (C := RX8) (T := TX8) (N := 4) hx hb hts cm_X8_append_8_0 hown hK hP 0 rfl rfl 0 (by decide) (hts _ (dmem (j := 0) rfl)) (fun _ h9 => h9) rfl dX8_append_22 ?_
  refine lv_iload_n hx hb dX8_append_25 rfl (lv_at hl 2 rfl) ?_
  refine lv_iload_n hx hb dX8_append_26 rfl (lv_at hl 0 rfl) ?_
  refine lv_iushr hx hb dX8_append_27 rfl ?_
  refine lv_topi (fun x10 ex10 => ?_)
  refine lv_sipush (v := 255) hx hb dX8_append_28 (by decide) ?_
  refine lv_iand hx hb dX8_append_31 ?_
  refine lv_topi (fun x11 ex11 => ?_)
  refine va_iast hx hb hK hP hD hS 1 0 rfl rfl (vp_in_iff.mpr (by decide)) dX8_append_32 (fun H locs => setW (ws' := [(h0, .inr (8, [.int 11, .ref h0_1, .ref h0_2, .int 0])), (h0_1, .inl (cI, 400, .inl (upd (upd (upd (upd fb 8 x2) 9 x5) 10 x8) 11 x11)))]) rfl (fun hP hD hS => ?_))
  refine lv_aload_n hx hb dX8_append_33 rfl (lv_at hl 1 rfl) ?_
  refine lv_dup hx hb dX8_append_34 rfl ?_
  refine va_get (D := G) (ci := 8) (v := .int 11) (C := RX8) (T := TX8) (N := 4) hx hb hts cm_X8_append_8_0 hown hK hP 0 rfl rfl 0 (by decide) (hts _ (dmem (j := 0) rfl)) (fun _ h9 => h9) rfl dX8_append_35 ?_
  refine lv_iconst (v := 1) hx hb dX8_append_38 (by decide) ?_
  refine lv_iadd hx hb dX8_append_39 ?_
  refine lv_topi (fun x12 ex12 => ?_)
  obtain rfl : 12 = x12 := (ex12.trans (by decide)).symm
  refine va_put (D := G) (ci := 8) (v := .int 12) (ty := .int) (C := RX8) (T := TX8) (N := 4) hx hb hts cm_X8_append_8_0 tyX8 tyX8_ok nmX8 hown hK hP hD hS 0 rfl rfl 0 (by decide) (hts _ (dmem (j := 0) rfl)) (fun _ h9 => h9) rfl (by decide +kernel) rfl rfl (Nat.le_of_ble_eq_true rfl) dX8_append_40 (fun H locs => setW (ws' := [(h0, .inr (8, [.int 12, .ref h0_1, .ref h0_2, .int 0])), (h0_1, .inl (cI, 400, .inl (upd (upd (upd (upd fb 8 x2) 9 x5) 10 x8) 11 x11)))]) rfl (fun hP hD hS => ?_))
  refine lv_iinc (v := (-8)) (lv' := [(2, .int (-8)), (0, .ref h0), (1, .int x)]) hx hb dX8_append_43 hl (k := 0) rfl (by decide) (by decide) rfl (fun ls hl => ?_)
  refine lv_goto (tgt := 3) hx hb dX8_append_46 (by decide) ?_
  refine lv_iload_n hx hb dX8_append_3 rfl (lv_at hl 0 rfl) ?_
  refine lv_if_lt (tgt := 49) hx hb dX8_append_4 (by decide) (fun _ => ?_) (fun c => absurd c (by decide))
  exact retV hx hb hr hlocks rfl hP hD hS (fun _ => 0) (fun k => match k with | 0 => (upd (upd (upd (upd fb 8 x2) 9 x5) 10 x8) 11 x11) | _ => fun _ => 0) [0, 1] (by decide +kernel) rfl dX8_append_49
def d_X8_append_12 : List Cond := [Cond.fieldLink RX8 19 "NoRent$Tape" "length" "I", Cond.fieldLink RX8 9 "NoRent$Tape" "bytes" "[I"]
def v_X8_append_12 : List Cond := Cond.code yX8_append cX8_append 3 none :: (d_X8_append_12 ++ (wsX80 ++ ([] : List Cond)))
theorem cm_X8_append_12_0 : ∀ w ∈ wsX80, w ∈ v_X8_append_12 := fun _ h => List.mem_cons_of_mem _ (List.mem_append_right _ (List.mem_append_left _ h))
theorem gd_X8_append_12 : Gd v_X8_append_12 := gd_mk (by decide +kernel) (gd_app gd_X8 gd_nil)
set_option maxHeartbeats 4000000 in
set_option maxRecDepth 100000 in
theorem c_X8_append_12 (l : Launch) (G : va_G) (cI cJ cZ cD cR cT : ClassId) (h0 : Nat) (x : Int32) (h0_1 : Nat) (h0_2 : Nat) (fb : Nat → Int32) (sz : Nat) : Met l yX8_append v_X8_append_12 ({ frames := 1, cells := 0, slots := 0, locals := 40 }) (va_Pc [.ref h0, .int x] (PreW G (tys6 cI cJ cZ cD cR cT) [(h0, .inr (8, [.int 12, .ref h0_1, .ref h0_2, .int 0])), (h0_1, .inl (cI, 400, .inl fb))] sz)) (QW RV G (va_A [(h0, .inr (8, [.int 12, .ref h0_1, .ref h0_2, .int 0])), (h0_1, .inl (cI, 400, .inl fb))] sz) (fun q g => [(h0, .inr (8, [.int 16, .ref h0_1, .ref h0_2, .int 0])), (h0_1, .inl (cI, 400, .inl (g 0)))])) 0 0 (va_A [(h0, .inr (8, [.int 12, .ref h0_1, .ref h0_2, .int 0])), (h0_1, .inl (cI, 400, .inl fb))] sz) := by
  refine metW (cc := cX8_append) (maxL := 3) (ret := none) (by decide) rfl (Nat.le_of_ble_eq_true rfl) ?_
  intro p e s m below meth c A ls hx hb hr hml hown hts hlocks hin hKK hP hD hA hS hl
  have hK := hKK.1
  have hown : s.vm.findClass RX8 = some m.cls := hown
  have hl : lv_has ls 3 [(0, .ref h0), (1, .int x)] := hl
  have hP : va_P G vwCl [(h0, .inr (8, [.int 12, .ref h0_1, .ref h0_2, .int 0])), (h0_1, .inl (cI, 400, .inl fb))] s.heap := hP
  have hD : va_D A [(h0, .inr (8, [.int 12, .ref h0_1, .ref h0_2, .int 0])), (h0_1, .inl (cI, 400, .inl fb))] := hD
  refine lv_bipush (v := 24) hx hb dX8_append_0 (by decide) ?_
  refine lv_istore_n (lv' := [(2, .int 24), (0, .ref h0), (1, .int x)]) hx hb dX8_append_2 rfl hl (by decide) rfl (fun ls hl => ?_)
  refine lv_iload_n hx hb dX8_append_3 rfl (lv_at hl 0 rfl) ?_
  refine lv_if_lt (tgt := 49) hx hb dX8_append_4 (by decide) (fun c => absurd c (by decide)) (fun _ => ?_)
  refine lv_aload_n hx hb dX8_append_7 rfl (lv_at hl 1 rfl) ?_
  refine va_get (D := G) (ci := 8) (v := .int 12) (C := RX8) (T := TX8) (N := 4) hx hb hts cm_X8_append_12_0 hown hK hP 0 rfl rfl 0 (by decide) (hts _ (dmem (j := 0) rfl)) (fun _ h9 => h9) rfl dX8_append_8 ?_
  refine lv_sipush (v := 400) hx hb dX8_append_11 (by decide) ?_
  refine lv_icmp_ge (tgt := 49) hx hb dX8_append_14 (by decide) (fun c => absurd c (by decide)) (fun _ => ?_)
  refine lv_aload_n hx hb dX8_append_17 rfl (lv_at hl 1 rfl) ?_
  refine va_get (D := G) (ci := 8) (v := .ref h0_1) (C := RX8) (T := TX8) (N := 4) hx hb hts cm_X8_append_12_0 hown hK hP 0 rfl rfl 1 (by decide) (hts _ (dmem (j := 1) rfl)) (fun _ h9 => h9) rfl dX8_append_18 ?_
  refine lv_aload_n hx hb dX8_append_21 rfl (lv_at hl 1 rfl) ?_
  refine va_get (D := G) (ci := 8) (v := .int 12) (C := RX8) (T := TX8) (N := 4) hx hb hts cm_X8_append_12_0 hown hK hP 0 rfl rfl 0 (by decide) (hts _ (dmem (j := 0) rfl)) (fun _ h9 => h9) rfl dX8_append_22 ?_
  refine lv_iload_n hx hb dX8_append_25 rfl (lv_at hl 2 rfl) ?_
  refine lv_iload_n hx hb dX8_append_26 rfl (lv_at hl 0 rfl) ?_
  refine lv_iushr hx hb dX8_append_27 rfl ?_
  refine lv_topi (fun x1 ex1 => ?_)
  refine lv_sipush (v := 255) hx hb dX8_append_28 (by decide) ?_
  refine lv_iand hx hb dX8_append_31 ?_
  refine lv_topi (fun x2 ex2 => ?_)
  refine va_iast hx hb hK hP hD hS 1 0 rfl rfl (vp_in_iff.mpr (by decide)) dX8_append_32 (fun H locs => setW (ws' := [(h0, .inr (8, [.int 12, .ref h0_1, .ref h0_2, .int 0])), (h0_1, .inl (cI, 400, .inl (upd fb 12 x2)))]) rfl (fun hP hD hS => ?_))
  refine lv_aload_n hx hb dX8_append_33 rfl (lv_at hl 1 rfl) ?_
  refine lv_dup hx hb dX8_append_34 rfl ?_
  refine va_get (D := G) (ci := 8) (v := .int 12) (C := RX8) (T := TX8) (N := 4) hx hb hts cm_X8_append_12_0 hown hK hP 0 rfl rfl 0 (by decide) (hts _ (dmem (j := 0) rfl)) (fun _ h9 => h9) rfl dX8_append_35 ?_
  refine lv_iconst (v := 1) hx hb dX8_append_38 (by decide) ?_
  refine lv_iadd hx hb dX8_append_39 ?_
  refine lv_topi (fun x3 ex3 => ?_)
  obtain rfl : 13 = x3 := (ex3.trans (by decide)).symm
  refine va_put (D := G) (ci := 8) (v := .int 13) (ty := .int) (C := RX8) (T := TX8) (N := 4) hx hb hts cm_X8_append_12_0 tyX8 tyX8_ok nmX8 hown hK hP hD hS 0 rfl rfl 0 (by decide) (hts _ (dmem (j := 0) rfl)) (fun _ h9 => h9) rfl (by decide +kernel) rfl rfl (Nat.le_of_ble_eq_true rfl) dX8_append_40 (fun H locs => setW (ws' := [(h0, .inr (8, [.int 13, .ref h0_1, .ref h0_2, .int 0])), (h0_1, .inl (cI, 400, .inl (upd fb 12 x2)))]) rfl (fun hP hD hS => ?_))
  refine lv_iinc (v := 16) (lv' := [(2, .int 16), (0, .ref h0), (1, .int x)]) hx hb dX8_append_43 hl (k := 0) rfl (by decide) (by decide) rfl (fun ls hl => ?_)
  refine lv_goto (tgt := 3) hx hb dX8_append_46 (by decide) ?_
  refine lv_iload_n hx hb dX8_append_3 rfl (lv_at hl 0 rfl) ?_
  refine lv_if_lt (tgt := 49) hx hb dX8_append_4 (by decide) (fun c => absurd c (by decide)) (fun _ => ?_)
  refine lv_aload_n hx hb dX8_append_7 rfl (lv_at hl 1 rfl) ?_
  refine va_get (D := G) (ci := 8) (v := .int 13) (C := RX8) (T := TX8) (N := 4) hx hb hts cm_X8_append_12_0 hown hK hP 0 rfl rfl 0 (by decide) (hts _ (dmem (j := 0) rfl)) (fun _ h9 => h9) rfl dX8_append_8 ?_
  refine lv_sipush (v := 400) hx hb dX8_append_11 (by decide) ?_
  refine lv_icmp_ge (tgt := 49) hx hb dX8_append_14 (by decide) (fun c => absurd c (by decide)) (fun _ => ?_)
  refine lv_aload_n hx hb dX8_append_17 rfl (lv_at hl 1 rfl) ?_
  refine va_get (D := G) (ci := 8) (v := .ref h0_1) (C := RX8) (T := TX8) (N := 4) hx hb hts cm_X8_append_12_0 hown hK hP 0 rfl rfl 1 (by decide) (hts _ (dmem (j := 1) rfl)) (fun _ h9 => h9) rfl dX8_append_18 ?_
  refine lv_aload_n hx hb dX8_append_21 rfl (lv_at hl 1 rfl) ?_
  refine va_get (D := G) (ci := 8) (v := .int 13) (C := RX8) (T := TX8) (N := 4) hx hb hts cm_X8_append_12_0 hown hK hP 0 rfl rfl 0 (by decide) (hts _ (dmem (j := 0) rfl)) (fun _ h9 => h9) rfl dX8_append_22 ?_
  refine lv_iload_n hx hb dX8_append_25 rfl (lv_at hl 2 rfl) ?_
  refine lv_iload_n hx hb dX8_append_26 rfl (lv_at hl 0 rfl) ?_
  refine lv_iushr hx hb dX8_append_27 rfl ?_
  refine lv_topi (fun x4 ex4 => ?_)
  refine lv_sipush (v := 255) hx hb dX8_append_28 (by decide) ?_
  refine lv_iand hx hb dX8_append_31 ?_
  refine lv_topi (fun x5 ex5 => ?_)
  refine va_iast hx hb hK hP hD hS 1 0 rfl rfl (vp_in_iff.mpr (by decide)) dX8_append_32 (fun H locs => setW (ws' := [(h0, .inr (8, [.int 13, .ref h0_1, .ref h0_2, .int 0])), (h0_1, .inl (cI, 400, .inl (upd (upd fb 12 x2) 13 x5)))]) rfl (fun hP hD hS => ?_))
  refine lv_aload_n hx hb dX8_append_33 rfl (lv_at hl 1 rfl) ?_
  refine lv_dup hx hb dX8_append_34 rfl ?_
  refine va_get (D := G) (ci := 8) (v := .int 13) (C := RX8) (T := TX8) (N := 4) hx hb hts cm_X8_append_12_0 hown hK hP 0 rfl rfl 0 (by decide) (hts _ (dmem (j := 0) rfl)) (fun _ h9 => h9) rfl dX8_append_35 ?_
  refine lv_iconst (v := 1) hx hb dX8_append_38 (by decide) ?_
  refine lv_iadd hx hb dX8_append_39 ?_
  refine lv_topi (fun x6 ex6 => ?_)
  obtain rfl : 14 = x6 := (ex6.trans (by decide)).symm
  refine va_put (D := G) (ci := 8) (v := .int 14) (ty := .int) (C := RX8) (T := TX8) (N := 4) hx hb hts cm_X8_append_12_0 tyX8 tyX8_ok nmX8 hown hK hP hD hS 0 rfl rfl 0 (by decide) (hts _ (dmem (j := 0) rfl)) (fun _ h9 => h9) rfl (by decide +kernel) rfl rfl (Nat.le_of_ble_eq_true rfl) dX8_append_40 (fun H locs => setW (ws' := [(h0, .inr (8, [.int 14, .ref h0_1, .ref h0_2, .int 0])), (h0_1, .inl (cI, 400, .inl (upd (upd fb 12 x2) 13 x5)))]) rfl (fun hP hD hS => ?_))
  refine lv_iinc (v := 8) (lv' := [(2, .int 8), (0, .ref h0), (1, .int x)]) hx hb dX8_append_43 hl (k := 0) rfl (by decide) (by decide) rfl (fun ls hl => ?_)
  refine lv_goto (tgt := 3) hx hb dX8_append_46 (by decide) ?_
  refine lv_iload_n hx hb dX8_append_3 rfl (lv_at hl 0 rfl) ?_
  refine lv_if_lt (tgt := 49) hx hb dX8_append_4 (by decide) (fun c => absurd c (by decide)) (fun _ => ?_)
  refine lv_aload_n hx hb dX8_append_7 rfl (lv_at hl 1 rfl) ?_
  refine va_get (D := G) (ci := 8) (v := .int 14) (C := RX8) (T := TX8) (N := 4) hx hb hts cm_X8_append_12_0 hown hK hP 0 rfl rfl 0 (by decide) (hts _ (dmem (j := 0) rfl)) (fun _ h9 => h9) rfl dX8_append_8 ?_
  refine lv_sipush (v := 400) hx hb dX8_append_11 (by decide) ?_
  refine lv_icmp_ge (tgt := 49) hx hb dX8_append_14 (by decide) (fun c => absurd c (by decide)) (fun _ => ?_)
  refine lv_aload_n hx hb dX8_append_17 rfl (lv_at hl 1 rfl) ?_
  refine va_get (D := G) (ci := 8) (v := .ref h0_1) (C := RX8) (T := TX8) (N := 4) hx hb hts cm_X8_append_12_0 hown hK hP 0 rfl rfl 1 (by decide) (hts _ (dmem (j := 1) rfl)) (fun _ h9 => h9) rfl dX8_append_18 ?_
  refine lv_aload_n hx hb dX8_append_21 rfl (lv_at hl 1 rfl) ?_
  refine va_get (D := G) (ci := 8) (v := .int 14) (C := RX8) (T := TX8) (N := 4) hx hb hts cm_X8_append_12_0 hown hK hP 0 rfl rfl 0 (by decide) (hts _ (dmem (j := 0) rfl)) (fun _ h9 => h9) rfl dX8_append_22 ?_
  refine lv_iload_n hx hb dX8_append_25 rfl (lv_at hl 2 rfl) ?_
  refine lv_iload_n hx hb dX8_append_26 rfl (lv_at hl 0 rfl) ?_
  refine lv_iushr hx hb dX8_append_27 rfl ?_
  refine lv_topi (fun x7 ex7 => ?_)
  refine lv_sipush (v := 255) hx hb dX8_append_28 (by decide) ?_
  refine lv_iand hx hb dX8_append_31 ?_
  refine lv_topi (fun x8 ex8 => ?_)
  refine va_iast hx hb hK hP hD hS 1 0 rfl rfl (vp_in_iff.mpr (by decide)) dX8_append_32 (fun H locs => setW (ws' := [(h0, .inr (8, [.int 14, .ref h0_1, .ref h0_2, .int 0])), (h0_1, .inl (cI, 400, .inl (upd (upd (upd fb 12 x2) 13 x5) 14 x8)))]) rfl (fun hP hD hS => ?_))
  refine lv_aload_n hx hb dX8_append_33 rfl (lv_at hl 1 rfl) ?_
  refine lv_dup hx hb dX8_append_34 rfl ?_
  refine va_get (D := G) (ci := 8) (v := .int 14) (C := RX8) (T := TX8) (N := 4) hx hb hts cm_X8_append_12_0 hown hK hP 0 rfl rfl 0 (by decide) (hts _ (dmem (j := 0) rfl)) (fun _ h9 => h9) rfl dX8_append_35 ?_
  refine lv_iconst (v := 1) hx hb dX8_append_38 (by decide) ?_
  refine lv_iadd hx hb dX8_append_39 ?_
  refine lv_topi (fun x9 ex9 => ?_)
  obtain rfl : 15 = x9 := (ex9.trans (by decide)).symm
  refine va_put (D := G) (ci := 8) (v := .int 15) (ty := .int) (C := RX8) (T := TX8) (N := 4) hx hb hts cm_X8_append_12_0 tyX8 tyX8_ok nmX8 hown hK hP hD hS 0 rfl rfl 0 (by decide) (hts _ (dmem (j := 0) rfl)) (fun _ h9 => h9) rfl (by decide +kernel) rfl rfl (Nat.le_of_ble_eq_true rfl) dX8_append_40 (fun H locs => setW (ws' := [(h0, .inr (8, [.int 15, .ref h0_1, .ref h0_2, .int 0])), (h0_1, .inl (cI, 400, .inl (upd (upd (upd fb 12 x2) 13 x5) 14 x8)))]) rfl (fun hP hD hS => ?_))
  refine lv_iinc (v := 0) (lv' := [(2, .int 0), (0, .ref h0), (1, .int x)]) hx hb dX8_append_43 hl (k := 0) rfl (by decide) (by decide) rfl (fun ls hl => ?_)
  refine lv_goto (tgt := 3) hx hb dX8_append_46 (by decide) ?_
  refine lv_iload_n hx hb dX8_append_3 rfl (lv_at hl 0 rfl) ?_
  refine lv_if_lt (tgt := 49) hx hb dX8_append_4 (by decide) (fun c => absurd c (by decide)) (fun _ => ?_)
  refine lv_aload_n hx hb dX8_append_7 rfl (lv_at hl 1 rfl) ?_
  refine va_get (D := G) (ci := 8) (v := .int 15) (C := RX8) (T := TX8) (N := 4) hx hb hts cm_X8_append_12_0 hown hK hP 0 rfl rfl 0 (by decide) (hts _ (dmem (j := 0) rfl)) (fun _ h9 => h9) rfl dX8_append_8 ?_
  refine lv_sipush (v := 400) hx hb dX8_append_11 (by decide) ?_
  refine lv_icmp_ge (tgt := 49) hx hb dX8_append_14 (by decide) (fun c => absurd c (by decide)) (fun _ => ?_)
  refine lv_aload_n hx hb dX8_append_17 rfl (lv_at hl 1 rfl) ?_
  refine va_get (D := G) (ci := 8) (v := .ref h0_1) (C := RX8) (T := TX8) (N := 4) hx hb hts cm_X8_append_12_0 hown hK hP 0 rfl rfl 1 (by decide) (hts _ (dmem (j := 1) rfl)) (fun _ h9 => h9) rfl dX8_append_18 ?_
  refine lv_aload_n hx hb dX8_append_21 rfl (lv_at hl 1 rfl) ?_
  refine va_get (D := G) (ci := 8) (v := .int 15) (C := RX8) (T := TX8) (N := 4) hx hb hts cm_X8_append_12_0 hown hK hP 0 rfl rfl 0 (by decide) (hts _ (dmem (j := 0) rfl)) (fun _ h9 => h9) rfl dX8_append_22 ?_
  refine lv_iload_n hx hb dX8_append_25 rfl (lv_at hl 2 rfl) ?_
  refine lv_iload_n hx hb dX8_append_26 rfl (lv_at hl 0 rfl) ?_
  refine lv_iushr hx hb dX8_append_27 rfl ?_
  refine lv_topi (fun x10 ex10 => ?_)
  refine lv_sipush (v := 255) hx hb dX8_append_28 (by decide) ?_
  refine lv_iand hx hb dX8_append_31 ?_
  refine lv_topi (fun x11 ex11 => ?_)
  refine va_iast hx hb hK hP hD hS 1 0 rfl rfl (vp_in_iff.mpr (by decide)) dX8_append_32 (fun H locs => setW (ws' := [(h0, .inr (8, [.int 15, .ref h0_1, .ref h0_2, .int 0])), (h0_1, .inl (cI, 400, .inl (upd (upd (upd (upd fb 12 x2) 13 x5) 14 x8) 15 x11)))]) rfl (fun hP hD hS => ?_))
  refine lv_aload_n hx hb dX8_append_33 rfl (lv_at hl 1 rfl) ?_
  refine lv_dup hx hb dX8_append_34 rfl ?_
  refine va_get (D := G) (ci := 8) (v := .int 15) (C := RX8) (T := TX8) (N := 4) hx hb hts cm_X8_append_12_0 hown hK hP 0 rfl rfl 0 (by decide) (hts _ (dmem (j := 0) rfl)) (fun _ h9 => h9) rfl dX8_append_35 ?_
  refine lv_iconst (v := 1) hx hb dX8_append_38 (by decide) ?_
  refine lv_iadd hx hb dX8_append_39 ?_
  refine lv_topi (fun x12 ex12 => ?_)
  obtain rfl : 16 = x12 := (ex12.trans (by decide)).symm
  refine va_put (D := G) (ci := 8) (v := .int 16) (ty := .int) (C := RX8) (T := TX8) (N := 4) hx hb hts cm_X8_append_12_0 tyX8 tyX8_ok nmX8 hown hK hP hD hS 0 rfl rfl 0 (by decide) (hts _ (dmem (j := 0) rfl)) (fun _ h9 => h9) rfl (by decide +kernel) rfl rfl (Nat.le_of_ble_eq_true rfl) dX8_append_40 (fun H locs => setW (ws' := [(h0, .inr (8, [.int 16, .ref h0_1, .ref h0_2, .int 0])), (h0_1, .inl (cI, 400, .inl (upd (upd (upd (upd fb 12 x2) 13 x5) 14 x8) 15 x11)))]) rfl (fun hP hD hS => ?_))
  refine lv_iinc (v := (-8)) (lv' := [(2, .int (-8)), (0, .ref h0), (1, .int x)]) hx hb dX8_append_43 hl (k := 0) rfl (by decide) (by decide) rfl (fun ls hl => ?_)
  refine lv_goto (tgt := 3) hx hb dX8_append_46 (by decide) ?_
  refine lv_iload_n hx hb dX8_append_3 rfl (lv_at hl 0 rfl) ?_
  refine lv_if_lt (tgt := 49) hx hb dX8_append_4 (by decide) (fun _ => ?_) (fun c => absurd c (by decide))
  exact retV hx hb hr hlocks rfl hP hD hS (fun _ => 0) (fun k => match k with | 0 => (upd (upd (upd (upd fb 12 x2) 13 x5) 14 x8) 15 x11) | _ => fun _ => 0) [0, 1] (by decide +kernel) rfl dX8_append_49
def d_X8_append_16 : List Cond := [Cond.fieldLink RX8 19 "NoRent$Tape" "length" "I", Cond.fieldLink RX8 9 "NoRent$Tape" "bytes" "[I"]
def v_X8_append_16 : List Cond := Cond.code yX8_append cX8_append 3 none :: (d_X8_append_16 ++ (wsX80 ++ ([] : List Cond)))
theorem cm_X8_append_16_0 : ∀ w ∈ wsX80, w ∈ v_X8_append_16 := fun _ h => List.mem_cons_of_mem _ (List.mem_append_right _ (List.mem_append_left _ h))
theorem gd_X8_append_16 : Gd v_X8_append_16 := gd_mk (by decide +kernel) (gd_app gd_X8 gd_nil)
set_option maxHeartbeats 4000000 in
set_option maxRecDepth 100000 in
theorem c_X8_append_16 (l : Launch) (G : va_G) (cI cJ cZ cD cR cT : ClassId) (h0 : Nat) (x : Int32) (h0_1 : Nat) (h0_2 : Nat) (fb : Nat → Int32) (sz : Nat) : Met l yX8_append v_X8_append_16 ({ frames := 1, cells := 0, slots := 0, locals := 40 }) (va_Pc [.ref h0, .int x] (PreW G (tys6 cI cJ cZ cD cR cT) [(h0, .inr (8, [.int 16, .ref h0_1, .ref h0_2, .int 0])), (h0_1, .inl (cI, 400, .inl fb))] sz)) (QW RV G (va_A [(h0, .inr (8, [.int 16, .ref h0_1, .ref h0_2, .int 0])), (h0_1, .inl (cI, 400, .inl fb))] sz) (fun q g => [(h0, .inr (8, [.int 20, .ref h0_1, .ref h0_2, .int 0])), (h0_1, .inl (cI, 400, .inl (g 0)))])) 0 0 (va_A [(h0, .inr (8, [.int 16, .ref h0_1, .ref h0_2, .int 0])), (h0_1, .inl (cI, 400, .inl fb))] sz) := by
  refine metW (cc := cX8_append) (maxL := 3) (ret := none) (by decide) rfl (Nat.le_of_ble_eq_true rfl) ?_
  intro p e s m below meth c A ls hx hb hr hml hown hts hlocks hin hKK hP hD hA hS hl
  have hK := hKK.1
  have hown : s.vm.findClass RX8 = some m.cls := hown
  have hl : lv_has ls 3 [(0, .ref h0), (1, .int x)] := hl
  have hP : va_P G vwCl [(h0, .inr (8, [.int 16, .ref h0_1, .ref h0_2, .int 0])), (h0_1, .inl (cI, 400, .inl fb))] s.heap := hP
  have hD : va_D A [(h0, .inr (8, [.int 16, .ref h0_1, .ref h0_2, .int 0])), (h0_1, .inl (cI, 400, .inl fb))] := hD
  refine lv_bipush (v := 24) hx hb dX8_append_0 (by decide) ?_
  refine lv_istore_n (lv' := [(2, .int 24), (0, .ref h0), (1, .int x)]) hx hb dX8_append_2 rfl hl (by decide) rfl (fun ls hl => ?_)
  refine lv_iload_n hx hb dX8_append_3 rfl (lv_at hl 0 rfl) ?_
  refine lv_if_lt (tgt := 49) hx hb dX8_append_4 (by decide) (fun c => absurd c (by decide)) (fun _ => ?_)
  refine lv_aload_n hx hb dX8_append_7 rfl (lv_at hl 1 rfl) ?_
  refine va_get (D := G) (ci := 8) (v := .int 16) (C := RX8) (T := TX8) (N := 4) hx hb hts cm_X8_append_16_0 hown hK hP 0 rfl rfl 0 (by decide) (hts _ (dmem (j := 0) rfl)) (fun _ h9 => h9) rfl dX8_append_8 ?_
  refine lv_sipush (v := 400) hx hb dX8_append_11 (by decide) ?_
  refine lv_icmp_ge (tgt := 49) hx hb dX8_append_14 (by decide) (fun c => absurd c (by decide)) (fun _ => ?_)
  refine lv_aload_n hx hb dX8_append_17 rfl (lv_at hl 1 rfl) ?_
  refine va_get (D := G) (ci := 8) (v := .ref h0_1) (C := RX8) (T := TX8) (N := 4) hx hb hts cm_X8_append_16_0 hown hK hP 0 rfl rfl 1 (by decide) (hts _ (dmem (j := 1) rfl)) (fun _ h9 => h9) rfl dX8_append_18 ?_
  refine lv_aload_n hx hb dX8_append_21 rfl (lv_at hl 1 rfl) ?_
  refine va_get (D := G) (ci := 8) (v := .int 16) (C := RX8) (T := TX8) (N := 4) hx hb hts cm_X8_append_16_0 hown hK hP 0 rfl rfl 0 (by decide) (hts _ (dmem (j := 0) rfl)) (fun _ h9 => h9) rfl dX8_append_22 ?_
  refine lv_iload_n hx hb dX8_append_25 rfl (lv_at hl 2 rfl) ?_
  refine lv_iload_n hx hb dX8_append_26 rfl (lv_at hl 0 rfl) ?_
  refine lv_iushr hx hb dX8_append_27 rfl ?_
  refine lv_topi (fun x1 ex1 => ?_)
  refine lv_sipush (v := 255) hx hb dX8_append_28 (by decide) ?_
  refine lv_iand hx hb dX8_append_31 ?_
  refine lv_topi (fun x2 ex2 => ?_)
  refine va_iast hx hb hK hP hD hS 1 0 rfl rfl (vp_in_iff.mpr (by decide)) dX8_append_32 (fun H locs => setW (ws' := [(h0, .inr (8, [.int 16, .ref h0_1, .ref h0_2, .int 0])), (h0_1, .inl (cI, 400, .inl (upd fb 16 x2)))]) rfl (fun hP hD hS => ?_))
  refine lv_aload_n hx hb dX8_append_33 rfl (lv_at hl 1 rfl) ?_
  refine lv_dup hx hb dX8_append_34 rfl ?_
  refine va_get (D := G) (ci := 8) (v := .int 16) (C := RX8) (T := TX8) (N := 4) hx hb hts cm_X8_append_16_0 hown hK hP 0 rfl rfl 0 (by decide) (hts _ (dmem (j := 0) rfl)) (fun _ h9 => h9) rfl dX8_append_35 ?_
  refine lv_iconst (v := 1) hx hb dX8_append_38 (by decide) ?_
  refine lv_iadd hx hb dX8_append_39 ?_
  refine lv_topi (fun x3 ex3 => ?_)
  obtain rfl : 17 = x3 := (ex3.trans (by decide)).symm
  refine va_put (D := G) (ci := 8) (v := .int 17) (ty := .int) (C := RX8) (T := TX8) (N := 4) hx hb hts cm_X8_append_16_0 tyX8 tyX8_ok nmX8 hown hK hP hD hS 0 rfl rfl 0 (by decide) (hts _ (dmem (j := 0) rfl)) (fun _ h9 => h9) rfl (by decide +kernel) rfl rfl (Nat.le_of_ble_eq_true rfl) dX8_append_40 (fun H locs => setW (ws' := [(h0, .inr (8, [.int 17, .ref h0_1, .ref h0_2, .int 0])), (h0_1, .inl (cI, 400, .inl (upd fb 16 x2)))]) rfl (fun hP hD hS => ?_))
  refine lv_iinc (v := 16) (lv' := [(2, .int 16), (0, .ref h0), (1, .int x)]) hx hb dX8_append_43 hl (k := 0) rfl (by decide) (by decide) rfl (fun ls hl => ?_)
  refine lv_goto (tgt := 3) hx hb dX8_append_46 (by decide) ?_
  refine lv_iload_n hx hb dX8_append_3 rfl (lv_at hl 0 rfl) ?_
  refine lv_if_lt (tgt := 49) hx hb dX8_append_4 (by decide) (fun c => absurd c (by decide)) (fun _ => ?_)
  refine lv_aload_n hx hb dX8_append_7 rfl (lv_at hl 1 rfl) ?_
  refine va_get (D := G) (ci := 8) (v := .int 17) (C := RX8) (T := TX8) (N := 4) hx hb hts cm_X8_append_16_0 hown hK hP 0 rfl rfl 0 (by decide) (hts _ (dmem (j := 0) rfl)) (fun _ h9 => h9) rfl dX8_append_8 ?_
  refine lv_sipush (v := 400) hx hb dX8_append_11 (by decide) ?_
  refine lv_icmp_ge (tgt := 49) hx hb dX8_append_14 (by decide) (fun c => absurd c (by decide)) (fun _ => ?_)
  refine lv_aload_n hx hb dX8_append_17 rfl (lv_at hl 1 rfl) ?_
  refine va_get (D := G) (ci := 8) (v := .ref h0_1) (C := RX8) (T := TX8) (N := 4) hx hb hts cm_X8_append_16_0 hown hK hP 0 rfl rfl 1 (by decide) (hts _ (dmem (j := 1) rfl)) (fun _ h9 => h9) rfl dX8_append_18 ?_
  refine lv_aload_n hx hb dX8_append_21 rfl (lv_at hl 1 rfl) ?_
  refine va_get (D := G) (ci := 8) (v := .int 17) (C := RX8) (T := TX8) (N := 4) hx hb hts cm_X8_append_16_0 hown hK hP 0 rfl rfl 0 (by decide) (hts _ (dmem (j := 0) rfl)) (fun _ h9 => h9) rfl dX8_append_22 ?_
  refine lv_iload_n hx hb dX8_append_25 rfl (lv_at hl 2 rfl) ?_
  refine lv_iload_n hx hb dX8_append_26 rfl (lv_at hl 0 rfl) ?_
  refine lv_iushr hx hb dX8_append_27 rfl ?_
  refine lv_topi (fun x4 ex4 => ?_)
  refine lv_sipush (v := 255) hx hb dX8_append_28 (by decide) ?_
  refine lv_iand hx hb dX8_append_31 ?_
  refine lv_topi (fun x5 ex5 => ?_)
  refine va_iast hx hb hK hP hD hS 1 0 rfl rfl (vp_in_iff.mpr (by decide)) dX8_append_32 (fun H locs => setW (ws' := [(h0, .inr (8, [.int 17, .ref h0_1, .ref h0_2, .int 0])), (h0_1, .inl (cI, 400, .inl (upd (upd fb 16 x2) 17 x5)))]) rfl (fun hP hD hS => ?_))
  refine lv_aload_n hx hb dX8_append_33 rfl (lv_at hl 1 rfl) ?_
  refine lv_dup hx hb dX8_append_34 rfl ?_
  refine va_get (D := G) (ci := 8) (v := .int 17) (C := RX8) (T := TX8) (N := 4) hx hb hts cm_X8_append_16_0 hown hK hP 0 rfl rfl 0 (by decide) (hts _ (dmem (j := 0) rfl)) (fun _ h9 => h9) rfl dX8_append_35 ?_
  refine lv_iconst (v := 1) hx hb dX8_append_38 (by decide) ?_
  refine lv_iadd hx hb dX8_append_39 ?_
  refine lv_topi (fun x6 ex6 => ?_)
  obtain rfl : 18 = x6 := (ex6.trans (by decide)).symm
  refine va_put (D := G) (ci := 8) (v := .int 18) (ty := .int) (C := RX8) (T := TX8) (N := 4) hx hb hts cm_X8_append_16_0 tyX8 tyX8_ok nmX8 hown hK hP hD hS 0 rfl rfl 0 (by decide) (hts _ (dmem (j := 0) rfl)) (fun _ h9 => h9) rfl (by decide +kernel) rfl rfl (Nat.le_of_ble_eq_true rfl) dX8_append_40 (fun H locs => setW (ws' := [(h0, .inr (8, [.int 18, .ref h0_1, .ref h0_2, .int 0])), (h0_1, .inl (cI, 400, .inl (upd (upd fb 16 x2) 17 x5)))]) rfl (fun hP hD hS => ?_))
  refine lv_iinc (v := 8) (lv' := [(2, .int 8), (0, .ref h0), (1, .int x)]) hx hb dX8_append_43 hl (k := 0) rfl (by decide) (by decide) rfl (fun ls hl => ?_)
  refine lv_goto (tgt := 3) hx hb dX8_append_46 (by decide) ?_
  refine lv_iload_n hx hb dX8_append_3 rfl (lv_at hl 0 rfl) ?_
  refine lv_if_lt (tgt := 49) hx hb dX8_append_4 (by decide) (fun c => absurd c (by decide)) (fun _ => ?_)
  refine lv_aload_n hx hb dX8_append_7 rfl (lv_at hl 1 rfl) ?_
  refine va_get (D := G) (ci := 8) (v := .int 18) (C := RX8) (T := TX8) (N := 4) hx hb hts cm_X8_append_16_0 hown hK hP 0 rfl rfl 0 (by decide) (hts _ (dmem (j := 0) rfl)) (fun _ h9 => h9) rfl dX8_append_8 ?_
  refine lv_sipush (v := 400) hx hb dX8_append_11 (by decide) ?_
  refine lv_icmp_ge (tgt := 49) hx hb dX8_append_14 (by decide) (fun c => absurd c (by decide)) (fun _ => ?_)
  refine lv_aload_n hx hb dX8_append_17 rfl (lv_at hl 1 rfl) ?_
  refine va_get (D := G) (ci := 8) (v := .ref h0_1) (C := RX8) (T := TX8) (N := 4) hx hb hts cm_X8_append_16_0 hown hK hP 0 rfl rfl 1 (by decide) (hts _ (dmem (j := 1) rfl)) (fun _ h9 => h9) rfl dX8_append_18 ?_
  refine lv_aload_n hx hb dX8_append_21 rfl (lv_at hl 1 rfl) ?_
  refine va_get (D := G) (ci := 8) (v := .int 18) (C := RX8) (T := TX8) (N := 4) hx hb hts cm_X8_append_16_0 hown hK hP 0 rfl rfl 0 (by decide) (hts _ (dmem (j := 0) rfl)) (fun _ h9 => h9) rfl dX8_append_22 ?_
  refine lv_iload_n hx hb dX8_append_25 rfl (lv_at hl 2 rfl) ?_
  refine lv_iload_n hx hb dX8_append_26 rfl (lv_at hl 0 rfl) ?_
  refine lv_iushr hx hb dX8_append_27 rfl ?_
  refine lv_topi (fun x7 ex7 => ?_)
  refine lv_sipush (v := 255) hx hb dX8_append_28 (by decide) ?_
  refine lv_iand hx hb dX8_append_31 ?_
  refine lv_topi (fun x8 ex8 => ?_)
  refine va_iast hx hb hK hP hD hS 1 0 rfl rfl (vp_in_iff.mpr (by decide)) dX8_append_32 (fun H locs => setW (ws' := [(h0, .inr (8, [.int 18, .ref h0_1, .ref h0_2, .int 0])), (h0_1, .inl (cI, 400, .inl (upd (upd (upd fb 16 x2) 17 x5) 18 x8)))]) rfl (fun hP hD hS => ?_))
  refine lv_aload_n hx hb dX8_append_33 rfl (lv_at hl 1 rfl) ?_
  refine lv_dup hx hb dX8_append_34 rfl ?_
  refine va_get (D := G) (ci := 8) (v := .int 18) (C := RX8) (T := TX8) (N := 4) hx hb hts cm_X8_append_16_0 hown hK hP 0 rfl rfl 0 (by decide) (hts _ (dmem (j := 0) rfl)) (fun _ h9 => h9) rfl dX8_append_35 ?_
  refine lv_iconst (v := 1) hx hb dX8_append_38 (by decide) ?_
  refine lv_iadd hx hb dX8_append_39 ?_
  refine lv_topi (fun x9 ex9 => ?_)
  obtain rfl : 19 = x9 := (ex9.trans (by decide)).symm
  refine va_put (D := G) (ci := 8) (v := .int 19) (ty := .int) (C := RX8) (T := TX8) (N := 4) hx hb hts cm_X8_append_16_0 tyX8 tyX8_ok nmX8 hown hK hP hD hS 0 rfl rfl 0 (by decide) (hts _ (dmem (j := 0) rfl)) (fun _ h9 => h9) rfl (by decide +kernel) rfl rfl (Nat.le_of_ble_eq_true rfl) dX8_append_40 (fun H locs => setW (ws' := [(h0, .inr (8, [.int 19, .ref h0_1, .ref h0_2, .int 0])), (h0_1, .inl (cI, 400, .inl (upd (upd (upd fb 16 x2) 17 x5) 18 x8)))]) rfl (fun hP hD hS => ?_))
  refine lv_iinc (v := 0) (lv' := [(2, .int 0), (0, .ref h0), (1, .int x)]) hx hb dX8_append_43 hl (k := 0) rfl (by decide) (by decide) rfl (fun ls hl => ?_)
  refine lv_goto (tgt := 3) hx hb dX8_append_46 (by decide) ?_
  refine lv_iload_n hx hb dX8_append_3 rfl (lv_at hl 0 rfl) ?_
  refine lv_if_lt (tgt := 49) hx hb dX8_append_4 (by decide) (fun c => absurd c (by decide)) (fun _ => ?_)
  refine lv_aload_n hx hb dX8_append_7 rfl (lv_at hl 1 rfl) ?_
  refine va_get (D := G) (ci := 8) (v := .int 19) (C := RX8) (T := TX8) (N := 4) hx hb hts cm_X8_append_16_0 hown hK hP 0 rfl rfl 0 (by decide) (hts _ (dmem (j := 0) rfl)) (fun _ h9 => h9) rfl dX8_append_8 ?_
  refine lv_sipush (v := 400) hx hb dX8_append_11 (by decide) ?_
  refine lv_icmp_ge (tgt := 49) hx hb dX8_append_14 (by decide) (fun c => absurd c (by decide)) (fun _ => ?_)
  refine lv_aload_n hx hb dX8_append_17 rfl (lv_at hl 1 rfl) ?_
  refine va_get (D := G) (ci := 8) (v := .ref h0_1) (C := RX8) (T := TX8) (N := 4) hx hb hts cm_X8_append_16_0 hown hK hP 0 rfl rfl 1 (by decide) (hts _ (dmem (j := 1) rfl)) (fun _ h9 => h9) rfl dX8_append_18 ?_
  refine lv_aload_n hx hb dX8_append_21 rfl (lv_at hl 1 rfl) ?_
  refine va_get (D := G) (ci := 8) (v := .int 19) (C := RX8) (T := TX8) (N := 4) hx hb hts cm_X8_append_16_0 hown hK hP 0 rfl rfl 0 (by decide) (hts _ (dmem (j := 0) rfl)) (fun _ h9 => h9) rfl dX8_append_22 ?_
  refine lv_iload_n hx hb dX8_append_25 rfl (lv_at hl 2 rfl) ?_
  refine lv_iload_n hx hb dX8_append_26 rfl (lv_at hl 0 rfl) ?_
  refine lv_iushr hx hb dX8_append_27 rfl ?_
  refine lv_topi (fun x10 ex10 => ?_)
  refine lv_sipush (v := 255) hx hb dX8_append_28 (by decide) ?_
  refine lv_iand hx hb dX8_append_31 ?_
  refine lv_topi (fun x11 ex11 => ?_)
  refine va_iast hx hb hK hP hD hS 1 0 rfl rfl (vp_in_iff.mpr (by decide)) dX8_append_32 (fun H locs => setW (ws' := [(h0, .inr (8, [.int 19, .ref h0_1, .ref h0_2, .int 0])), (h0_1, .inl (cI, 400, .inl (upd (upd (upd (upd fb 16 x2) 17 x5) 18 x8) 19 x11)))]) rfl (fun hP hD hS => ?_))
  refine lv_aload_n hx hb dX8_append_33 rfl (lv_at hl 1 rfl) ?_
  refine lv_dup hx hb dX8_append_34 rfl ?_
  refine va_get (D := G) (ci := 8) (v := .int 19) (C := RX8) (T := TX8) (N := 4) hx hb hts cm_X8_append_16_0 hown hK hP 0 rfl rfl 0 (by decide) (hts _ (dmem (j := 0) rfl)) (fun _ h9 => h9) rfl dX8_append_35 ?_
  refine lv_iconst (v := 1) hx hb dX8_append_38 (by decide) ?_
  refine lv_iadd hx hb dX8_append_39 ?_
  refine lv_topi (fun x12 ex12 => ?_)
  obtain rfl : 20 = x12 := (ex12.trans (by decide)).symm
  refine va_put (D := G) (ci := 8) (v := .int 20) (ty := .int) (C := RX8) (T := TX8) (N := 4) hx hb hts cm_X8_append_16_0 tyX8 tyX8_ok nmX8 hown hK hP hD hS 0 rfl rfl 0 (by decide) (hts _ (dmem (j := 0) rfl)) (fun _ h9 => h9) rfl (by decide +kernel) rfl rfl (Nat.le_of_ble_eq_true rfl) dX8_append_40 (fun H locs => setW (ws' := [(h0, .inr (8, [.int 20, .ref h0_1, .ref h0_2, .int 0])), (h0_1, .inl (cI, 400, .inl (upd (upd (upd (upd fb 16 x2) 17 x5) 18 x8) 19 x11)))]) rfl (fun hP hD hS => ?_))
  refine lv_iinc (v := (-8)) (lv' := [(2, .int (-8)), (0, .ref h0), (1, .int x)]) hx hb dX8_append_43 hl (k := 0) rfl (by decide) (by decide) rfl (fun ls hl => ?_)
  refine lv_goto (tgt := 3) hx hb dX8_append_46 (by decide) ?_
  refine lv_iload_n hx hb dX8_append_3 rfl (lv_at hl 0 rfl) ?_
  refine lv_if_lt (tgt := 49) hx hb dX8_append_4 (by decide) (fun _ => ?_) (fun c => absurd c (by decide))
  exact retV hx hb hr hlocks rfl hP hD hS (fun _ => 0) (fun k => match k with | 0 => (upd (upd (upd (upd fb 16 x2) 17 x5) 18 x8) 19 x11) | _ => fun _ => 0) [0, 1] (by decide +kernel) rfl dX8_append_49
def d_X5_fail : List Cond := [Cond.fieldLink RX5 9 "NoRent$Reader" "fault" "I", Cond.fieldLink RX5 40 "NoRent$Reader" "place" "[I", Cond.fieldLink RX5 60 "NoRent$Reader" "at" "I"]
def v_X5_fail : List Cond := Cond.code yX5_fail cX5_fail 1 none :: (d_X5_fail ++ (wsX50 ++ ([] : List Cond)))
theorem cm_X5_fail_0 : ∀ w ∈ wsX50, w ∈ v_X5_fail := fun _ h => List.mem_cons_of_mem _ (List.mem_append_right _ (List.mem_append_left _ h))
theorem gd_X5_fail : Gd v_X5_fail := gd_mk (by decide +kernel) (gd_app gd_X5 gd_nil)
set_option maxHeartbeats 4000000 in
set_option maxRecDepth 100000 in
theorem c_X5_fail (l : Launch) (G : va_G) (cI cJ cZ cD cR cT : ClassId) (h0 : Nat) (h0_3 : Nat) (h0_4 : Nat) (h0_5 : Nat) (h0_6 : Nat) (h0_7 : Nat) (h0_9 : Nat) (h0_10 : Nat) (h0_12 : Nat) (h0_13 : Nat) (h0_14 : Nat) (sz : Nat) : Met l yX5_fail v_X5_fail ({ frames := 1, cells := 0, slots := 0, locals := 40 }) (va_Pc [.ref h0] (PreW G (tys6 cI cJ cZ cD cR cT) [(h0, .inr (5, [.int (-1), .int 1, .int 0, .ref h0_3, .ref h0_4, .ref h0_5, .ref h0_6, .ref h0_7, .int 0, .ref h0_9, .ref h0_10, .int 0, .ref h0_12, .ref h0_13, .ref h0_14, .int 0, .int 0])), (h0_13, .inl (cI, 401, .inl (upd (fun _ => 0) 0 0)))] sz)) (QW RV G (va_A [(h0, .inr (5, [.int (-1), .int 1, .int 0, .ref h0_3, .ref h0_4, .ref h0_5, .ref h0_6, .ref h0_7, .int 0, .ref h0_9, .ref h0_10, .int 0, .ref h0_12, .ref h0_13, .ref h0_14, .int 0, .int 0])), (h0_13, .inl (cI, 401, .inl (upd (fun _ => 0) 0 0)))] sz) (fun q g => [(h0, .inr (5, [.int 0, .int 1, .int 0, .ref h0_3, .ref h0_4, .ref h0_5, .ref h0_6, .ref h0_7, .int 0, .ref h0_9, .ref h0_10, .int 0, .ref h0_12, .ref h0_13, .ref h0_14, .int 0, .int 0])), (h0_13, .inl (cI, 401, .inl (upd (fun _ => 0) 0 0)))])) 0 0 (va_A [(h0, .inr (5, [.int (-1), .int 1, .int 0, .ref h0_3, .ref h0_4, .ref h0_5, .ref h0_6, .ref h0_7, .int 0, .ref h0_9, .ref h0_10, .int 0, .ref h0_12, .ref h0_13, .ref h0_14, .int 0, .int 0])), (h0_13, .inl (cI, 401, .inl (upd (fun _ => 0) 0 0)))] sz) := by
  refine metW (cc := cX5_fail) (maxL := 1) (ret := none) (by decide) rfl (Nat.le_of_ble_eq_true rfl) ?_
  intro p e s m below meth c A ls hx hb hr hml hown hts hlocks hin hKK hP hD hA hS hl
  have hK := hKK.1
  have hown : s.vm.findClass RX5 = some m.cls := hown
  have hl : lv_has ls 1 [(0, .ref h0)] := hl
  have hP : va_P G vwCl [(h0, .inr (5, [.int (-1), .int 1, .int 0, .ref h0_3, .ref h0_4, .ref h0_5, .ref h0_6, .ref h0_7, .int 0, .ref h0_9, .ref h0_10, .int 0, .ref h0_12, .ref h0_13, .ref h0_14, .int 0, .int 0])), (h0_13, .inl (cI, 401, .inl (upd (fun _ => 0) 0 0)))] s.heap := hP
  have hD : va_D A [(h0, .inr (5, [.int (-1), .int 1, .int 0, .ref h0_3, .ref h0_4, .ref h0_5, .ref h0_6, .ref h0_7, .int 0, .ref h0_9, .ref h0_10, .int 0, .ref h0_12, .ref h0_13, .ref h0_14, .int 0, .int 0])), (h0_13, .inl (cI, 401, .inl (upd (fun _ => 0) 0 0)))] := hD
  refine lv_aload_n hx hb dX5_fail_0 rfl (lv_at hl 0 rfl) ?_
  refine va_get (D := G) (ci := 5) (v := .int (-1)) (C := RX5) (T := TX5) (N := 17) hx hb hts cm_X5_fail_0 hown hK hP 0 rfl rfl 0 (by decide) (hts _ (dmem (j := 0) rfl)) (fun _ h9 => h9) rfl dX5_fail_1 ?_
  refine lv_iconst (v := (-1)) hx hb dX5_fail_4 (by decide) ?_
  refine lv_icmp_ne (tgt := 21) hx hb dX5_fail_5 (by decide) (fun c => absurd c (by decide)) (fun _ => ?_)
  refine lv_aload_n hx hb dX5_fail_8 rfl (lv_at hl 0 rfl) ?_
  refine lv_aload_n hx hb dX5_fail_9 rfl (lv_at hl 0 rfl) ?_
  refine va_get (D := G) (ci := 5) (v := .ref h0_13) (C := RX5) (T := TX5) (N := 17) hx hb hts cm_X5_fail_0 hown hK hP 0 rfl rfl 13 (by decide) (hts _ (dmem (j := 1) rfl)) (fun _ h9 => h9) rfl dX5_fail_10 ?_
  refine lv_aload_n hx hb dX5_fail_13 rfl (lv_at hl 0 rfl) ?_
  refine va_get (D := G) (ci := 5) (v := .int 0) (C := RX5) (T := TX5) (N := 17) hx hb hts cm_X5_fail_0 hown hK hP 0 rfl rfl 15 (by decide) (hts _ (dmem (j := 2) rfl)) (fun _ h9 => h9) rfl dX5_fail_14 ?_
  refine va_iald hx hb hK hP 1 0 rfl rfl (vp_in_iff.mpr (by decide)) dX5_fail_17 ?_
  refine lv_topi (fun x1 ex1 => ?_)
  obtain rfl : 0 = x1 := (ex1.trans (by first | rfl | decide | (simp [upd, mrow]; done))).symm
  refine va_put (D := G) (ci := 5) (v := .int 0) (ty := .int) (C := RX5) (T := TX5) (N := 17) hx hb hts cm_X5_fail_0 tyX5 tyX5_ok nmX5 hown hK hP hD hS 0 rfl rfl 0 (by decide) (hts _ (dmem (j := 0) rfl)) (fun _ h9 => h9) rfl (by decide +kernel) rfl rfl (Nat.le_of_ble_eq_true rfl) dX5_fail_18 (fun H locs => setW (ws' := [(h0, .inr (5, [.int 0, .int 1, .int 0, .ref h0_3, .ref h0_4, .ref h0_5, .ref h0_6, .ref h0_7, .int 0, .ref h0_9, .ref h0_10, .int 0, .ref h0_12, .ref h0_13, .ref h0_14, .int 0, .int 0])), (h0_13, .inl (cI, 401, .inl (upd (fun _ => 0) 0 0)))]) rfl (fun hP hD hS => ?_))
  exact retV hx hb hr hlocks rfl hP hD hS (fun _ => 0) (fun _ _ => 0) [0, 1] (by decide +kernel) rfl dX5_fail_21
def d_X5_split : List Cond := [Cond.fieldLink RX5 69 "NoRent$Reader" "tokens" "I", Cond.fieldLink RX5 80 "NoRent$Tape" "length" "I", Cond.fieldLink RX5 40 "NoRent$Reader" "place" "[I", Cond.fieldLink RX5 37 "NoRent$Reader" "token" "[I"]
def v_X5_split : List Cond := Cond.code yX5_split cX5_split 5 none :: (d_X5_split ++ (wsX50 ++ (wsX80 ++ ([] : List Cond))))
theorem cm_X5_split_0 : ∀ w ∈ wsX50, w ∈ v_X5_split := fun _ h => List.mem_cons_of_mem _ (List.mem_append_right _ (List.mem_append_left _ h))
theorem cm_X5_split_1 : ∀ w ∈ wsX80, w ∈ v_X5_split := fun _ h => List.mem_cons_of_mem _ (List.mem_append_right _ (List.mem_append_right _ (List.mem_append_left _ h)))
theorem gd_X5_split : Gd v_X5_split := gd_mk (by decide +kernel) (gd_app gd_X5 (gd_app gd_X8 gd_nil))
set_option maxHeartbeats 4000000 in
set_option maxRecDepth 100000 in
theorem c_X5_split (l : Launch) (G : va_G) (cI cJ cZ cD cR cT : ClassId) (h0 : Nat) (k0 : Nat) (h0_3 : Nat) (h0_4 : Nat) (h0_5 : Nat) (h0_6 : Nat) (h0_7 : Nat) (h0_9 : Nat) (h0_10 : Nat) (h0_12 : Nat) (h0_13 : Nat) (h0_14 : Nat) (k0_1 : Nat) (k0_2 : Nat) (sz : Nat) : Met l yX5_split v_X5_split ({ frames := 1, cells := 0, slots := 0, locals := 40 }) (va_Pc [.ref h0, .ref k0] (PreW G (tys6 cI cJ cZ cD cR cT) [(h0, .inr (5, [.int (-1), .int 0, .int 0, .ref h0_3, .ref h0_4, .ref h0_5, .ref h0_6, .ref h0_7, .int 0, .ref h0_9, .ref h0_10, .int 0, .ref h0_12, .ref h0_13, .ref h0_14, .int 0, .int 0])), (h0_12, .inl (cI, 401, .inl (fun _ => 0))), (h0_13, .inl (cI, 401, .inl (fun _ => 0))), (k0, .inr (8, [.int 0, .ref k0_1, .ref k0_2, .int 0]))] sz)) (QW RV G (va_A [(h0, .inr (5, [.int (-1), .int 0, .int 0, .ref h0_3, .ref h0_4, .ref h0_5, .ref h0_6, .ref h0_7, .int 0, .ref h0_9, .ref h0_10, .int 0, .ref h0_12, .ref h0_13, .ref h0_14, .int 0, .int 0])), (h0_12, .inl (cI, 401, .inl (fun _ => 0))), (h0_13, .inl (cI, 401, .inl (fun _ => 0))), (k0, .inr (8, [.int 0, .ref k0_1, .ref k0_2, .int 0]))] sz) (fun q g => [(h0, .inr (5, [.int (-1), .int 0, .int 0, .ref h0_3, .ref h0_4, .ref h0_5, .ref h0_6, .ref h0_7, .int 0, .ref h0_9, .ref h0_10, .int 0, .ref h0_12, .ref h0_13, .ref h0_14, .int 0, .int 0])), (h0_12, .inl (cI, 401, .inl (upd (fun _ => 0) 0 302))), (h0_13, .inl (cI, 401, .inl (upd (fun _ => 0) 0 0))), (k0, .inr (8, [.int 0, .ref k0_1, .ref k0_2, .int 0]))])) 0 0 (va_A [(h0, .inr (5, [.int (-1), .int 0, .int 0, .ref h0_3, .ref h0_4, .ref h0_5, .ref h0_6, .ref h0_7, .int 0, .ref h0_9, .ref h0_10, .int 0, .ref h0_12, .ref h0_13, .ref h0_14, .int 0, .int 0])), (h0_12, .inl (cI, 401, .inl (fun _ => 0))), (h0_13, .inl (cI, 401, .inl (fun _ => 0))), (k0, .inr (8, [.int 0, .ref k0_1, .ref k0_2, .int 0]))] sz) := by
  refine metW (cc := cX5_split) (maxL := 5) (ret := none) (by decide) rfl (Nat.le_of_ble_eq_true rfl) ?_
  intro p e s m below meth c A ls hx hb hr hml hown hts hlocks hin hKK hP hD hA hS hl
  have hK := hKK.1
  have hown : s.vm.findClass RX5 = some m.cls := hown
  have hl : lv_has ls 5 [(0, .ref h0), (1, .ref k0)] := hl
  have hP : va_P G vwCl [(h0, .inr (5, [.int (-1), .int 0, .int 0, .ref h0_3, .ref h0_4, .ref h0_5, .ref h0_6, .ref h0_7, .int 0, .ref h0_9, .ref h0_10, .int 0, .ref h0_12, .ref h0_13, .ref h0_14, .int 0, .int 0])), (h0_12, .inl (cI, 401, .inl (fun _ => 0))), (h0_13, .inl (cI, 401, .inl (fun _ => 0))), (k0, .inr (8, [.int 0, .ref k0_1, .ref k0_2, .int 0]))] s.heap := hP
  have hD : va_D A [(h0, .inr (5, [.int (-1), .int 0, .int 0, .ref h0_3, .ref h0_4, .ref h0_5, .ref h0_6, .ref h0_7, .int 0, .ref h0_9, .ref h0_10, .int 0, .ref h0_12, .ref h0_13, .ref h0_14, .int 0, .int 0])), (h0_12, .inl (cI, 401, .inl (fun _ => 0))), (h0_13, .inl (cI, 401, .inl (fun _ => 0))), (k0, .inr (8, [.int 0, .ref k0_1, .ref k0_2, .int 0]))] := hD
  refine lv_aload_n hx hb dX5_split_0 rfl (lv_at hl 0 rfl) ?_
  refine lv_iconst (v := 0) hx hb dX5_split_1 (by decide) ?_
  refine va_put (D := G) (ci := 5) (v := .int 0) (ty := .int) (C := RX5) (T := TX5) (N := 17) hx hb hts cm_X5_split_0 tyX5 tyX5_ok nmX5 hown hK hP hD hS 0 rfl rfl 11 (by decide) (hts _ (dmem (j := 0) rfl)) (fun _ h9 => h9) rfl (by decide +kernel) rfl rfl (Nat.le_of_ble_eq_true rfl) dX5_split_2 (fun H locs => setW (ws' := [(h0, .inr (5, [.int (-1), .int 0, .int 0, .ref h0_3, .ref h0_4, .ref h0_5, .ref h0_6, .ref h0_7, .int 0, .ref h0_9, .ref h0_10, .int 0, .ref h0_12, .ref h0_13, .ref h0_14, .int 0, .int 0])), (h0_12, .inl (cI, 401, .inl (fun _ => 0))), (h0_13, .inl (cI, 401, .inl (fun _ => 0))), (k0, .inr (8, [.int 0, .ref k0_1, .ref k0_2, .int 0]))]) rfl (fun hP hD hS => ?_))
  refine lv_iconst (v := 0) hx hb dX5_split_5 (by decide) ?_
  refine lv_istore_n (lv' := [(2, .int 0), (0, .ref h0), (1, .ref k0)]) hx hb dX5_split_6 rfl hl (by decide) rfl (fun ls hl => ?_)
  refine lv_iconst (v := 0) hx hb dX5_split_7 (by decide) ?_
  refine lv_istore_n (lv' := [(3, .int 0), (2, .int 0), (0, .ref h0), (1, .ref k0)]) hx hb dX5_split_8 rfl hl (by decide) rfl (fun ls hl => ?_)
  refine lv_iload_n hx hb dX5_split_9 rfl (lv_at hl 0 rfl) ?_
  refine lv_aload_n hx hb dX5_split_10 rfl (lv_at hl 3 rfl) ?_
  refine va_get (D := G) (ci := 8) (v := .int 0) (C := RX8) (T := TX8) (N := 4) hx hb hts cm_X5_split_1 hown hK hP 3 rfl rfl 0 (by decide) (hts _ (dmem (j := 1) rfl)) (fun _ h9 => h9) rfl dX5_split_11 ?_
  refine lv_icmp_ge (tgt := 154) hx hb dX5_split_14 (by decide) (fun _ => ?_) (fun c => absurd c (by decide))
  refine lv_aload_n hx hb dX5_split_154 rfl (lv_at hl 2 rfl) ?_
  refine va_get (D := G) (ci := 5) (v := .ref h0_13) (C := RX5) (T := TX5) (N := 17) hx hb hts cm_X5_split_0 hown hK hP 0 rfl rfl 13 (by decide) (hts _ (dmem (j := 2) rfl)) (fun _ h9 => h9) rfl dX5_split_155 ?_
  refine lv_aload_n hx hb dX5_split_158 rfl (lv_at hl 2 rfl) ?_
  refine va_get (D := G) (ci := 5) (v := .int 0) (C := RX5) (T := TX5) (N := 17) hx hb hts cm_X5_split_0 hown hK hP 0 rfl rfl 11 (by decide) (hts _ (dmem (j := 0) rfl)) (fun _ h9 => h9) rfl dX5_split_159 ?_
  refine lv_aload_n hx hb dX5_split_162 rfl (lv_at hl 3 rfl) ?_
  refine va_get (D := G) (ci := 8) (v := .int 0) (C := RX8) (T := TX8) (N := 4) hx hb hts cm_X5_split_1 hown hK hP 3 rfl rfl 0 (by decide) (hts _ (dmem (j := 1) rfl)) (fun _ h9 => h9) rfl dX5_split_163 ?_
  refine va_iast hx hb hK hP hD hS 2 0 rfl rfl (vp_in_iff.mpr (by decide)) dX5_split_166 (fun H locs => setW (ws' := [(h0, .inr (5, [.int (-1), .int 0, .int 0, .ref h0_3, .ref h0_4, .ref h0_5, .ref h0_6, .ref h0_7, .int 0, .ref h0_9, .ref h0_10, .int 0, .ref h0_12, .ref h0_13, .ref h0_14, .int 0, .int 0])), (h0_12, .inl (cI, 401, .inl (fun _ => 0))), (h0_13, .inl (cI, 401, .inl (upd (fun _ => 0) 0 0))), (k0, .inr (8, [.int 0, .ref k0_1, .ref k0_2, .int 0]))]) rfl (fun hP hD hS => ?_))
  refine lv_aload_n hx hb dX5_split_167 rfl (lv_at hl 2 rfl) ?_
  refine va_get (D := G) (ci := 5) (v := .ref h0_12) (C := RX5) (T := TX5) (N := 17) hx hb hts cm_X5_split_0 hown hK hP 0 rfl rfl 12 (by decide) (hts _ (dmem (j := 3) rfl)) (fun _ h9 => h9) rfl dX5_split_168 ?_
  refine lv_aload_n hx hb dX5_split_171 rfl (lv_at hl 2 rfl) ?_
  refine va_get (D := G) (ci := 5) (v := .int 0) (C := RX5) (T := TX5) (N := 17) hx hb hts cm_X5_split_0 hown hK hP 0 rfl rfl 11 (by decide) (hts _ (dmem (j := 0) rfl)) (fun _ h9 => h9) rfl dX5_split_172 ?_
  refine lv_sipush (v := 302) hx hb dX5_split_175 (by decide) ?_
  refine va_iast hx hb hK hP hD hS 1 0 rfl rfl (vp_in_iff.mpr (by decide)) dX5_split_178 (fun H locs => setW (ws' := [(h0, .inr (5, [.int (-1), .int 0, .int 0, .ref h0_3, .ref h0_4, .ref h0_5, .ref h0_6, .ref h0_7, .int 0, .ref h0_9, .ref h0_10, .int 0, .ref h0_12, .ref h0_13, .ref h0_14, .int 0, .int 0])), (h0_12, .inl (cI, 401, .inl (upd (fun _ => 0) 0 302))), (h0_13, .inl (cI, 401, .inl (upd (fun _ => 0) 0 0))), (k0, .inr (8, [.int 0, .ref k0_1, .ref k0_2, .int 0]))]) rfl (fun hP hD hS => ?_))
  exact retV hx hb hr hlocks rfl hP hD hS (fun _ => 0) (fun _ _ => 0) [0, 1, 2, 3] (by decide +kernel) rfl dX5_split_179
def d_X5_readClause : List Cond := [Cond.fieldLink RX5 50 "NoRent$Reader" "clauses" "I", Cond.fieldLink RX5 37 "NoRent$Reader" "token" "[I", Cond.fieldLink RX5 60 "NoRent$Reader" "at" "I", Cond.fieldLink RX5 15 "NoRent$Reader" "kind" "[I", Cond.fieldLink RX5 19 "NoRent$Reader" "first" "[I", Cond.fieldLink RX5 22 "NoRent$Reader" "second" "[I", Cond.fieldLink RX5 25 "NoRent$Reader" "start" "[I", Cond.fieldLink RX5 57 "NoRent$Reader" "written" "I", Cond.methodLink RX5 72 yX5_fail, Cond.instanceMethod yX5_fail, Cond.selects RX5 yX5_fail yX5_fail, Cond.initialized RX5, Cond.fieldLink RX5 28 "NoRent$Reader" "stop" "[I"]
def v_X5_readClause : List Cond := Cond.code yX5_readClause cX5_readClause 4 none :: (d_X5_readClause ++ (wsX50 ++ (v_X5_fail ++ ([] : List Cond))))
theorem cm_X5_readClause_0 : ∀ w ∈ wsX50, w ∈ v_X5_readClause := fun _ h => List.mem_cons_of_mem _ (List.mem_append_right _ (List.mem_append_left _ h))
theorem cm_X5_readClause_1 : ∀ w ∈ v_X5_fail, w ∈ v_X5_readClause := fun _ h => List.mem_cons_of_mem _ (List.mem_append_right _ (List.mem_append_right _ (List.mem_append_left _ h)))
theorem gd_X5_readClause : Gd v_X5_readClause := gd_mk (by decide +kernel) (gd_app gd_X5 (gd_app gd_X5_fail gd_nil))
set_option maxRecDepth 20000 in
theorem gv_X5_readClause_72_X5_fail : GoodIn v_X5_readClause (wsV RX5 72 RX5 yX5_fail v_X5_fail) := goodIn_app (goodIn_of _ (by decide +kernel)) (gi cm_X5_readClause_1 gd_X5_fail)
set_option maxHeartbeats 4000000 in
set_option maxRecDepth 100000 in
theorem c_X5_readClause (l : Launch) (G : va_G) (cI cJ cZ cD cR cT : ClassId) (h0 : Nat) (h0_3 : Nat) (h0_4 : Nat) (h0_5 : Nat) (h0_6 : Nat) (h0_7 : Nat) (h0_9 : Nat) (h0_10 : Nat) (h0_12 : Nat) (h0_13 : Nat) (h0_14 : Nat) (sz : Nat) : Met l yX5_readClause v_X5_readClause ({ frames := 2, cells := 0, slots := 0, locals := 60 }) (va_Pc [.ref h0] (PreW G (tys6 cI cJ cZ cD cR cT) [(h0, .inr (5, [.int (-1), .int 0, .int 0, .ref h0_3, .ref h0_4, .ref h0_5, .ref h0_6, .ref h0_7, .int 0, .ref h0_9, .ref h0_10, .int 0, .ref h0_12, .ref h0_13, .ref h0_14, .int 0, .int 0])), (h0_3, .inl (cI, 12, .inl (fun _ => 0))), (h0_4, .inl (cI, 12, .inl (fun _ => 0))), (h0_5, .inl (cI, 12, .inl (fun _ => 0))), (h0_6, .inl (cI, 12, .inl (fun _ => 0))), (h0_7, .inl (cI, 12, .inl (fun _ => 0))), (h0_12, .inl (cI, 401, .inl (upd (fun _ => 0) 0 302))), (h0_13, .inl (cI, 401, .inl (upd (fun _ => 0) 0 0)))] sz)) (QW RV G (va_A [(h0, .inr (5, [.int (-1), .int 0, .int 0, .ref h0_3, .ref h0_4, .ref h0_5, .ref h0_6, .ref h0_7, .int 0, .ref h0_9, .ref h0_10, .int 0, .ref h0_12, .ref h0_13, .ref h0_14, .int 0, .int 0])), (h0_3, .inl (cI, 12, .inl (fun _ => 0))), (h0_4, .inl (cI, 12, .inl (fun _ => 0))), (h0_5, .inl (cI, 12, .inl (fun _ => 0))), (h0_6, .inl (cI, 12, .inl (fun _ => 0))), (h0_7, .inl (cI, 12, .inl (fun _ => 0))), (h0_12, .inl (cI, 401, .inl (upd (fun _ => 0) 0 302))), (h0_13, .inl (cI, 401, .inl (upd (fun _ => 0) 0 0)))] sz) (fun q g => [(h0, .inr (5, [.int 0, .int 1, .int 0, .ref h0_3, .ref h0_4, .ref h0_5, .ref h0_6, .ref h0_7, .int 0, .ref h0_9, .ref h0_10, .int 0, .ref h0_12, .ref h0_13, .ref h0_14, .int 0, .int 0])), (h0_3, .inl (cI, 12, .inl (upd (fun _ => 0) 0 302))), (h0_4, .inl (cI, 12, .inl (upd (fun _ => 0) 0 0))), (h0_5, .inl (cI, 12, .inl (upd (fun _ => 0) 0 0))), (h0_6, .inl (cI, 12, .inl (upd (fun _ => 0) 0 0))), (h0_7, .inl (cI, 12, .inl (upd (fun _ => 0) 0 0))), (h0_12, .inl (cI, 401, .inl (upd (fun _ => 0) 0 302))), (h0_13, .inl (cI, 401, .inl (upd (fun _ => 0) 0 0)))])) 0 0 (va_A [(h0, .inr (5, [.int (-1), .int 0, .int 0, .ref h0_3, .ref h0_4, .ref h0_5, .ref h0_6, .ref h0_7, .int 0, .ref h0_9, .ref h0_10, .int 0, .ref h0_12, .ref h0_13, .ref h0_14, .int 0, .int 0])), (h0_3, .inl (cI, 12, .inl (fun _ => 0))), (h0_4, .inl (cI, 12, .inl (fun _ => 0))), (h0_5, .inl (cI, 12, .inl (fun _ => 0))), (h0_6, .inl (cI, 12, .inl (fun _ => 0))), (h0_7, .inl (cI, 12, .inl (fun _ => 0))), (h0_12, .inl (cI, 401, .inl (upd (fun _ => 0) 0 302))), (h0_13, .inl (cI, 401, .inl (upd (fun _ => 0) 0 0)))] sz) := by
  refine metW (cc := cX5_readClause) (maxL := 4) (ret := none) (by decide) rfl (Nat.le_of_ble_eq_true rfl) ?_
  intro p e s m below meth c A ls hx hb hr hml hown hts hlocks hin hKK hP hD hA hS hl
  have hK := hKK.1
  have hown : s.vm.findClass RX5 = some m.cls := hown
  have hl : lv_has ls 4 [(0, .ref h0)] := hl
  have hP : va_P G vwCl [(h0, .inr (5, [.int (-1), .int 0, .int 0, .ref h0_3, .ref h0_4, .ref h0_5, .ref h0_6, .ref h0_7, .int 0, .ref h0_9, .ref h0_10, .int 0, .ref h0_12, .ref h0_13, .ref h0_14, .int 0, .int 0])), (h0_3, .inl (cI, 12, .inl (fun _ => 0))), (h0_4, .inl (cI, 12, .inl (fun _ => 0))), (h0_5, .inl (cI, 12, .inl (fun _ => 0))), (h0_6, .inl (cI, 12, .inl (fun _ => 0))), (h0_7, .inl (cI, 12, .inl (fun _ => 0))), (h0_12, .inl (cI, 401, .inl (upd (fun _ => 0) 0 302))), (h0_13, .inl (cI, 401, .inl (upd (fun _ => 0) 0 0)))] s.heap := hP
  have hD : va_D A [(h0, .inr (5, [.int (-1), .int 0, .int 0, .ref h0_3, .ref h0_4, .ref h0_5, .ref h0_6, .ref h0_7, .int 0, .ref h0_9, .ref h0_10, .int 0, .ref h0_12, .ref h0_13, .ref h0_14, .int 0, .int 0])), (h0_3, .inl (cI, 12, .inl (fun _ => 0))), (h0_4, .inl (cI, 12, .inl (fun _ => 0))), (h0_5, .inl (cI, 12, .inl (fun _ => 0))), (h0_6, .inl (cI, 12, .inl (fun _ => 0))), (h0_7, .inl (cI, 12, .inl (fun _ => 0))), (h0_12, .inl (cI, 401, .inl (upd (fun _ => 0) 0 302))), (h0_13, .inl (cI, 401, .inl (upd (fun _ => 0) 0 0)))] := hD
  refine lv_aload_n hx hb dX5_readClause_0 rfl (lv_at hl 0 rfl) ?_
  refine va_get (D := G) (ci := 5) (v := .int 0) (C := RX5) (T := TX5) (N := 17) hx hb hts cm_X5_readClause_0 hown hK hP 0 rfl rfl 1 (by decide) (hts _ (dmem (j := 0) rfl)) (fun _ h9 => h9) rfl dX5_readClause_1 ?_
  refine lv_bipush (v := 12) hx hb dX5_readClause_4 (by decide) ?_
  refine lv_icmp_lt (tgt := 14) hx hb dX5_readClause_6 (by decide) (fun _ => ?_) (fun c => absurd c (by decide))
  refine lv_aload_n hx hb dX5_readClause_14 rfl (lv_at hl 0 rfl) ?_
  refine va_get (D := G) (ci := 5) (v := .int 0) (C := RX5) (T := TX5) (N := 17) hx hb hts cm_X5_readClause_0 hown hK hP 0 rfl rfl 1 (by decide) (hts _ (dmem (j := 0) rfl)) (fun _ h9 => h9) rfl dX5_readClause_15 ?_
  refine lv_istore_n (lv' := [(1, .int 0), (0, .ref h0)]) hx hb dX5_readClause_18 rfl hl (by decide) rfl (fun ls hl => ?_)
  refine lv_aload_n hx hb dX5_readClause_19 rfl (lv_at hl 1 rfl) ?_
  refine va_get (D := G) (ci := 5) (v := .ref h0_12) (C := RX5) (T := TX5) (N := 17) hx hb hts cm_X5_readClause_0 hown hK hP 0 rfl rfl 12 (by decide) (hts _ (dmem (j := 1) rfl)) (fun _ h9 => h9) rfl dX5_readClause_20 ?_
  refine lv_aload_n hx hb dX5_readClause_23 rfl (lv_at hl 1 rfl) ?_
  refine va_get (D := G) (ci := 5) (v := .int 0) (C := RX5) (T := TX5) (N := 17) hx hb hts cm_X5_readClause_0 hown hK hP 0 rfl rfl 15 (by decide) (hts _ (dmem (j := 2) rfl)) (fun _ h9 => h9) rfl dX5_readClause_24 ?_
  refine va_iald hx hb hK hP 6 0 rfl rfl (vp_in_iff.mpr (by decide)) dX5_readClause_27 ?_
  refine lv_topi (fun x1 ex1 => ?_)
  obtain rfl : 302 = x1 := (ex1.trans (by first | rfl | decide | (simp [upd, mrow]; done))).symm
  refine lv_istore_n (lv' := [(2, .int 302), (1, .int 0), (0, .ref h0)]) hx hb dX5_readClause_28 rfl hl (by decide) rfl (fun ls hl => ?_)
  refine lv_iconst (v := 0) hx hb dX5_readClause_29 (by decide) ?_
  refine lv_istore_n (lv' := [(3, .int 0), (2, .int 302), (1, .int 0), (0, .ref h0)]) hx hb dX5_readClause_30 rfl hl (by decide) rfl (fun ls hl => ?_)
  refine lv_aload_n hx hb dX5_readClause_31 rfl (lv_at hl 3 rfl) ?_
  refine lv_dup hx hb dX5_readClause_32 rfl ?_
  refine va_get (D := G) (ci := 5) (v := .int 0) (C := RX5) (T := TX5) (N := 17) hx hb hts cm_X5_readClause_0 hown hK hP 0 rfl rfl 1 (by decide) (hts _ (dmem (j := 0) rfl)) (fun _ h9 => h9) rfl dX5_readClause_33 ?_
  refine lv_iconst (v := 1) hx hb dX5_readClause_36 (by decide) ?_
  refine lv_iadd hx hb dX5_readClause_37 ?_
  refine lv_topi (fun x2 ex2 => ?_)
  obtain rfl : 1 = x2 := (ex2.trans (by decide)).symm
  refine va_put (D := G) (ci := 5) (v := .int 1) (ty := .int) (C := RX5) (T := TX5) (N := 17) hx hb hts cm_X5_readClause_0 tyX5 tyX5_ok nmX5 hown hK hP hD hS 0 rfl rfl 1 (by decide) (hts _ (dmem (j := 0) rfl)) (fun _ h9 => h9) rfl (by decide +kernel) rfl rfl (Nat.le_of_ble_eq_true rfl) dX5_readClause_38 (fun H locs => setW (ws' := [(h0, .inr (5, [.int (-1), .int 1, .int 0, .ref h0_3, .ref h0_4, .ref h0_5, .ref h0_6, .ref h0_7, .int 0, .ref h0_9, .ref h0_10, .int 0, .ref h0_12, .ref h0_13, .ref h0_14, .int 0, .int 0])), (h0_3, .inl (cI, 12, .inl (fun _ => 0))), (h0_4, .inl (cI, 12, .inl (fun _ => 0))), (h0_5, .inl (cI, 12, .inl (fun _ => 0))), (h0_6, .inl (cI, 12, .inl (fun _ => 0))), (h0_7, .inl (cI, 12, .inl (fun _ => 0))), (h0_12, .inl (cI, 401, .inl (upd (fun _ => 0) 0 302))), (h0_13, .inl (cI, 401, .inl (upd (fun _ => 0) 0 0)))]) rfl (fun hP hD hS => ?_))
  refine lv_aload_n hx hb dX5_readClause_41 rfl (lv_at hl 3 rfl) ?_
  refine va_get (D := G) (ci := 5) (v := .ref h0_3) (C := RX5) (T := TX5) (N := 17) hx hb hts cm_X5_readClause_0 hown hK hP 0 rfl rfl 3 (by decide) (hts _ (dmem (j := 3) rfl)) (fun _ h9 => h9) rfl dX5_readClause_42 ?_
  refine lv_iload_n hx hb dX5_readClause_45 rfl (lv_at hl 2 rfl) ?_
  refine lv_iload_n hx hb dX5_readClause_46 rfl (lv_at hl 1 rfl) ?_
  refine va_iast hx hb hK hP hD hS 1 0 rfl rfl (vp_in_iff.mpr (by decide)) dX5_readClause_47 (fun H locs => setW (ws' := [(h0, .inr (5, [.int (-1), .int 1, .int 0, .ref h0_3, .ref h0_4, .ref h0_5, .ref h0_6, .ref h0_7, .int 0, .ref h0_9, .ref h0_10, .int 0, .ref h0_12, .ref h0_13, .ref h0_14, .int 0, .int 0])), (h0_3, .inl (cI, 12, .inl (upd (fun _ => 0) 0 302))), (h0_4, .inl (cI, 12, .inl (fun _ => 0))), (h0_5, .inl (cI, 12, .inl (fun _ => 0))), (h0_6, .inl (cI, 12, .inl (fun _ => 0))), (h0_7, .inl (cI, 12, .inl (fun _ => 0))), (h0_12, .inl (cI, 401, .inl (upd (fun _ => 0) 0 302))), (h0_13, .inl (cI, 401, .inl (upd (fun _ => 0) 0 0)))]) rfl (fun hP hD hS => ?_))
  refine lv_aload_n hx hb dX5_readClause_48 rfl (lv_at hl 3 rfl) ?_
  refine va_get (D := G) (ci := 5) (v := .ref h0_4) (C := RX5) (T := TX5) (N := 17) hx hb hts cm_X5_readClause_0 hown hK hP 0 rfl rfl 4 (by decide) (hts _ (dmem (j := 4) rfl)) (fun _ h9 => h9) rfl dX5_readClause_49 ?_
  refine lv_iload_n hx hb dX5_readClause_52 rfl (lv_at hl 2 rfl) ?_
  refine lv_iconst (v := 0) hx hb dX5_readClause_53 (by decide) ?_
  refine va_iast hx hb hK hP hD hS 2 0 rfl rfl (vp_in_iff.mpr (by decide)) dX5_readClause_54 (fun H locs => setW (ws' := [(h0, .inr (5, [.int (-1), .int 1, .int 0, .ref h0_3, .ref h0_4, .ref h0_5, .ref h0_6, .ref h0_7, .int 0, .ref h0_9, .ref h0_10, .int 0, .ref h0_12, .ref h0_13, .ref h0_14, .int 0, .int 0])), (h0_3, .inl (cI, 12, .inl (upd (fun _ => 0) 0 302))), (h0_4, .inl (cI, 12, .inl (upd (fun _ => 0) 0 0))), (h0_5, .inl (cI, 12, .inl (fun _ => 0))), (h0_6, .inl (cI, 12, .inl (fun _ => 0))), (h0_7, .inl (cI, 12, .inl (fun _ => 0))), (h0_12, .inl (cI, 401, .inl (upd (fun _ => 0) 0 302))), (h0_13, .inl (cI, 401, .inl (upd (fun _ => 0) 0 0)))]) rfl (fun hP hD hS => ?_))
  refine lv_aload_n hx hb dX5_readClause_55 rfl (lv_at hl 3 rfl) ?_
  refine va_get (D := G) (ci := 5) (v := .ref h0_5) (C := RX5) (T := TX5) (N := 17) hx hb hts cm_X5_readClause_0 hown hK hP 0 rfl rfl 5 (by decide) (hts _ (dmem (j := 5) rfl)) (fun _ h9 => h9) rfl dX5_readClause_56 ?_
  refine lv_iload_n hx hb dX5_readClause_59 rfl (lv_at hl 2 rfl) ?_
  refine lv_iconst (v := 0) hx hb dX5_readClause_60 (by decide) ?_
  refine va_iast hx hb hK hP hD hS 3 0 rfl rfl (vp_in_iff.mpr (by decide)) dX5_readClause_61 (fun H locs => setW (ws' := [(h0, .inr (5, [.int (-1), .int 1, .int 0, .ref h0_3, .ref h0_4, .ref h0_5, .ref h0_6, .ref h0_7, .int 0, .ref h0_9, .ref h0_10, .int 0, .ref h0_12, .ref h0_13, .ref h0_14, .int 0, .int 0])), (h0_3, .inl (cI, 12, .inl (upd (fun _ => 0) 0 302))), (h0_4, .inl (cI, 12, .inl (upd (fun _ => 0) 0 0))), (h0_5, .inl (cI, 12, .inl (upd (fun _ => 0) 0 0))), (h0_6, .inl (cI, 12, .inl (fun _ => 0))), (h0_7, .inl (cI, 12, .inl (fun _ => 0))), (h0_12, .inl (cI, 401, .inl (upd (fun _ => 0) 0 302))), (h0_13, .inl (cI, 401, .inl (upd (fun _ => 0) 0 0)))]) rfl (fun hP hD hS => ?_))
  refine lv_aload_n hx hb dX5_readClause_62 rfl (lv_at hl 3 rfl) ?_
  refine va_get (D := G) (ci := 5) (v := .ref h0_6) (C := RX5) (T := TX5) (N := 17) hx hb hts cm_X5_readClause_0 hown hK hP 0 rfl rfl 6 (by decide) (hts _ (dmem (j := 6) rfl)) (fun _ h9 => h9) rfl dX5_readClause_63 ?_
  refine lv_iload_n hx hb dX5_readClause_66 rfl (lv_at hl 2 rfl) ?_
  refine lv_aload_n hx hb dX5_readClause_67 rfl (lv_at hl 3 rfl) ?_
  refine va_get (D := G) (ci := 5) (v := .int 0) (C := RX5) (T := TX5) (N := 17) hx hb hts cm_X5_readClause_0 hown hK hP 0 rfl rfl 8 (by decide) (hts _ (dmem (j := 7) rfl)) (fun _ h9 => h9) rfl dX5_readClause_68 ?_
  refine va_iast hx hb hK hP hD hS 4 0 rfl rfl (vp_in_iff.mpr (by decide)) dX5_readClause_71 (fun H locs => setW (ws' := [(h0, .inr (5, [.int (-1), .int 1, .int 0, .ref h0_3, .ref h0_4, .ref h0_5, .ref h0_6, .ref h0_7, .int 0, .ref h0_9, .ref h0_10, .int 0, .ref h0_12, .ref h0_13, .ref h0_14, .int 0, .int 0])), (h0_3, .inl (cI, 12, .inl (upd (fun _ => 0) 0 302))), (h0_4, .inl (cI, 12, .inl (upd (fun _ => 0) 0 0))), (h0_5, .inl (cI, 12, .inl (upd (fun _ => 0) 0 0))), (h0_6, .inl (cI, 12, .inl (upd (fun _ => 0) 0 0))), (h0_7, .inl (cI, 12, .inl (fun _ => 0))), (h0_12, .inl (cI, 401, .inl (upd (fun _ => 0) 0 302))), (h0_13, .inl (cI, 401, .inl (upd (fun _ => 0) 0 0)))]) rfl (fun hP hD hS => ?_))
  refine lv_iload_n hx hb dX5_readClause_72 rfl (lv_at hl 1 rfl) ?_
  refine lv_sipush (v := 256) hx hb dX5_readClause_73 (by decide) ?_
  refine lv_icmp_ne (tgt := 125) hx hb dX5_readClause_76 (by decide) (fun _ => ?_) (fun c => absurd c (by decide))
  refine lv_iload_n hx hb dX5_readClause_125 rfl (lv_at hl 1 rfl) ?_
  refine lv_sipush (v := 258) hx hb dX5_readClause_126 (by decide) ?_
  refine lv_icmp_ne (tgt := 170) hx hb dX5_readClause_129 (by decide) (fun _ => ?_) (fun c => absurd c (by decide))
  refine lv_iload_n hx hb dX5_readClause_170 rfl (lv_at hl 1 rfl) ?_
  refine lv_sipush (v := 260) hx hb dX5_readClause_171 (by decide) ?_
  refine lv_icmp_eq (tgt := 184) hx hb dX5_readClause_174 (by decide) (fun c => absurd c (by decide)) (fun _ => ?_)
  refine lv_iload_n hx hb dX5_readClause_177 rfl (lv_at hl 1 rfl) ?_
  refine lv_sipush (v := 261) hx hb dX5_readClause_178 (by decide) ?_
  refine lv_icmp_ne (tgt := 204) hx hb dX5_readClause_181 (by decide) (fun _ => ?_) (fun c => absurd c (by decide))
  refine lv_iload_n hx hb dX5_readClause_204 rfl (lv_at hl 1 rfl) ?_
  refine lv_sipush (v := 262) hx hb dX5_readClause_205 (by decide) ?_
  refine lv_icmp_eq (tgt := 225) hx hb dX5_readClause_208 (by decide) (fun c => absurd c (by decide)) (fun _ => ?_)
  refine lv_iload_n hx hb dX5_readClause_211 rfl (lv_at hl 1 rfl) ?_
  refine lv_sipush (v := 263) hx hb dX5_readClause_212 (by decide) ?_
  refine lv_icmp_eq (tgt := 225) hx hb dX5_readClause_215 (by decide) (fun c => absurd c (by decide)) (fun _ => ?_)
  refine lv_iload_n hx hb dX5_readClause_218 rfl (lv_at hl 1 rfl) ?_
  refine lv_sipush (v := 264) hx hb dX5_readClause_219 (by decide) ?_
  refine lv_icmp_ne (tgt := 248) hx hb dX5_readClause_222 (by decide) (fun _ => ?_) (fun c => absurd c (by decide))
  refine lv_aload_n hx hb dX5_readClause_248 rfl (lv_at hl 3 rfl) ?_
  refine goV (As := []) (rest := []) (wr := [(h0_3, .inl (cI, 12, .inl (upd (fun _ => 0) 0 302))), (h0_4, .inl (cI, 12, .inl (upd (fun _ => 0) 0 0))), (h0_5, .inl (cI, 12, .inl (upd (fun _ => 0) 0 0))), (h0_6, .inl (cI, 12, .inl (upd (fun _ => 0) 0 0))), (h0_7, .inl (cI, 12, .inl (fun _ => 0))), (h0_12, .inl (cI, 401, .inl (upd (fun _ => 0) 0 302)))]) ⟨hx, hb, hml, hown, hts⟩ (c_X5_fail l G cI cJ cZ cD cR cT h0 h0_3 h0_4 h0_5 h0_6 h0_7 h0_9 h0_10 h0_12 h0_13 h0_14 _) (cwV 0 hts gv_X5_readClause_72_X5_fail rfl rfl rfl (by decide +kernel) ⟨Nat.le_of_ble_eq_true rfl, Nat.le_of_ble_eq_true rfl⟩) 0 rfl rfl rfl hKK hP hD hS hA [0, 7] [1, 2, 3, 4, 5, 6] rfl rfl (by decide +kernel) (by decide +kernel) (by decide +kernel) rfl hl.1 rfl (lv_room (Nat.le_of_ble_eq_true rfl)) dX5_readClause_249 ⟨Nat.le_of_ble_eq_true rfl, Nat.le_of_ble_eq_true rfl⟩ (fun v4 q3 gq3 H locs hv4 => appW (ws' := [(h0_3, .inl (cI, 12, .inl (upd (fun _ => 0) 0 302))), (h0_4, .inl (cI, 12, .inl (upd (fun _ => 0) 0 0))), (h0_5, .inl (cI, 12, .inl (upd (fun _ => 0) 0 0))), (h0_6, .inl (cI, 12, .inl (upd (fun _ => 0) 0 0))), (h0_7, .inl (cI, 12, .inl (fun _ => 0))), (h0_12, .inl (cI, 401, .inl (upd (fun _ => 0) 0 302))), (h0, .inr (5, [.int 0, .int 1, .int 0, .ref h0_3, .ref h0_4, .ref h0_5, .ref h0_6, .ref h0_7, .int 0, .ref h0_9, .ref h0_10, .int 0, .ref h0_12, .ref h0_13, .ref h0_14, .int 0, .int 0])), (h0_13, .inl (cI, 401, .inl (upd (fun _ => 0) 0 0)))]) rfl (fun hP hD hS => ?_))
  obtain rfl := hv4
  refine lv_iload_n hx hb dX5_readClause_252 rfl (lv_at hl 0 rfl) ?_
  refine lv_if_eq (tgt := 302) hx hb dX5_readClause_253 (by decide) (fun _ => ?_) (fun c => absurd c (by decide))
  refine lv_aload_n hx hb dX5_readClause_302 rfl (lv_at hl 3 rfl) ?_
  refine va_get (D := G) (ci := 5) (v := .ref h0_7) (C := RX5) (T := TX5) (N := 17) hx hb hts cm_X5_readClause_0 hown hK hP 6 rfl rfl 7 (by decide) (hts _ (dmem (j := 12) rfl)) (fun _ h9 => h9) rfl dX5_readClause_303 ?_
  refine lv_iload_n hx hb dX5_readClause_306 rfl (lv_at hl 2 rfl) ?_
  refine lv_aload_n hx hb dX5_readClause_307 rfl (lv_at hl 3 rfl) ?_
  refine va_get (D := G) (ci := 5) (v := .int 0) (C := RX5) (T := TX5) (N := 17) hx hb hts cm_X5_readClause_0 hown hK hP 6 rfl rfl 8 (by decide) (hts _ (dmem (j := 7) rfl)) (fun _ h9 => h9) rfl dX5_readClause_308 ?_
  refine va_iast hx hb hK hP hD hS 4 0 rfl rfl (vp_in_iff.mpr (by decide)) dX5_readClause_311 (fun H locs => setW (ws' := [(h0_3, .inl (cI, 12, .inl (upd (fun _ => 0) 0 302))), (h0_4, .inl (cI, 12, .inl (upd (fun _ => 0) 0 0))), (h0_5, .inl (cI, 12, .inl (upd (fun _ => 0) 0 0))), (h0_6, .inl (cI, 12, .inl (upd (fun _ => 0) 0 0))), (h0_7, .inl (cI, 12, .inl (upd (fun _ => 0) 0 0))), (h0_12, .inl (cI, 401, .inl (upd (fun _ => 0) 0 302))), (h0, .inr (5, [.int 0, .int 1, .int 0, .ref h0_3, .ref h0_4, .ref h0_5, .ref h0_6, .ref h0_7, .int 0, .ref h0_9, .ref h0_10, .int 0, .ref h0_12, .ref h0_13, .ref h0_14, .int 0, .int 0])), (h0_13, .inl (cI, 401, .inl (upd (fun _ => 0) 0 0)))]) rfl (fun hP hD hS => ?_))
  exact retV hx hb hr hlocks rfl hP hD hS (fun _ => 0) (fun _ _ => 0) [6, 0, 1, 2, 3, 4, 5, 7] (by decide +kernel) rfl dX5_readClause_312
def d_X5_read : List Cond := [Cond.methodLink RX5 46 yX5_split, Cond.instanceMethod yX5_split, Cond.selects RX5 yX5_split yX5_split, Cond.initialized RX5, Cond.fieldLink RX5 9 "NoRent$Reader" "fault" "I", Cond.fieldLink RX5 50 "NoRent$Reader" "clauses" "I", Cond.fieldLink RX5 53 "NoRent$Reader" "asksBanned" "Z", Cond.fieldLink RX5 57 "NoRent$Reader" "written" "I", Cond.fieldLink RX5 60 "NoRent$Reader" "at" "I", Cond.fieldLink RX5 63 "NoRent$Reader" "leaves" "I", Cond.methodLink RX5 66 yX5_readClause, Cond.instanceMethod yX5_readClause, Cond.selects RX5 yX5_readClause yX5_readClause, Cond.fieldLink RX5 69 "NoRent$Reader" "tokens" "I", Cond.fieldLink RX5 37 "NoRent$Reader" "token" "[I"]
def v_X5_read : List Cond := Cond.code yX5_read cX5_read 4 (some (.object "NoRent$Text")) :: (d_X5_read ++ (v_X5_split ++ (wsX50 ++ (v_X5_readClause ++ ([] : List Cond)))))
theorem cm_X5_read_0 : ∀ w ∈ v_X5_split, w ∈ v_X5_read := fun _ h => List.mem_cons_of_mem _ (List.mem_append_right _ (List.mem_append_left _ h))
theorem cm_X5_read_1 : ∀ w ∈ wsX50, w ∈ v_X5_read := fun _ h => List.mem_cons_of_mem _ (List.mem_append_right _ (List.mem_append_right _ (List.mem_append_left _ h)))
theorem cm_X5_read_2 : ∀ w ∈ v_X5_readClause, w ∈ v_X5_read := fun _ h => List.mem_cons_of_mem _ (List.mem_append_right _ (List.mem_append_right _ (List.mem_append_right _ (List.mem_append_left _ h))))
theorem gd_X5_read : Gd v_X5_read := gd_mk (by decide +kernel) (gd_app gd_X5_split (gd_app gd_X5 (gd_app gd_X5_readClause gd_nil)))
set_option maxRecDepth 20000 in
theorem gv_X5_read_46_X5_split : GoodIn v_X5_read (wsV RX5 46 RX5 yX5_split v_X5_split) := goodIn_app (goodIn_of _ (by decide +kernel)) (gi cm_X5_read_0 gd_X5_split)
set_option maxRecDepth 20000 in
theorem gv_X5_read_66_X5_readClause : GoodIn v_X5_read (wsV RX5 66 RX5 yX5_readClause v_X5_readClause) := goodIn_app (goodIn_of _ (by decide +kernel)) (gi cm_X5_read_2 gd_X5_readClause)
set_option maxHeartbeats 4000000 in
set_option maxRecDepth 100000 in
theorem c_X5_read (l : Launch) (G : va_G) (cI cJ cZ cD cR cT : ClassId) (h0 : Nat) (k0 : Nat) (x : Int32) (h0_3 : Nat) (h0_4 : Nat) (h0_5 : Nat) (h0_6 : Nat) (h0_7 : Nat) (h0_9 : Nat) (h0_10 : Nat) (h0_12 : Nat) (h0_13 : Nat) (h0_14 : Nat) (k0_1 : Nat) (k0_2 : Nat) (sz : Nat) : Met l yX5_read v_X5_read ({ frames := 3, cells := 0, slots := 0, locals := 83 }) (va_Pc [.ref h0, .ref k0, .int x] (PreW G (tys6 cI cJ cZ cD cR cT) [(h0, .inr (5, [.int (-1), .int 0, .int 0, .ref h0_3, .ref h0_4, .ref h0_5, .ref h0_6, .ref h0_7, .int 0, .ref h0_9, .ref h0_10, .int 0, .ref h0_12, .ref h0_13, .ref h0_14, .int 0, .int 0])), (h0_3, .inl (cI, 12, .inl (fun _ => 0))), (h0_4, .inl (cI, 12, .inl (fun _ => 0))), (h0_5, .inl (cI, 12, .inl (fun _ => 0))), (h0_6, .inl (cI, 12, .inl (fun _ => 0))), (h0_7, .inl (cI, 12, .inl (fun _ => 0))), (h0_12, .inl (cI, 401, .inl (fun _ => 0))), (h0_13, .inl (cI, 401, .inl (fun _ => 0))), (k0, .inr (8, [.int 0, .ref k0_1, .ref k0_2, .int 0]))] sz)) (QW RN G (va_A [(h0, .inr (5, [.int (-1), .int 0, .int 0, .ref h0_3, .ref h0_4, .ref h0_5, .ref h0_6, .ref h0_7, .int 0, .ref h0_9, .ref h0_10, .int 0, .ref h0_12, .ref h0_13, .ref h0_14, .int 0, .int 0])), (h0_3, .inl (cI, 12, .inl (fun _ => 0))), (h0_4, .inl (cI, 12, .inl (fun _ => 0))), (h0_5, .inl (cI, 12, .inl (fun _ => 0))), (h0_6, .inl (cI, 12, .inl (fun _ => 0))), (h0_7, .inl (cI, 12, .inl (fun _ => 0))), (h0_12, .inl (cI, 401, .inl (fun _ => 0))), (h0_13, .inl (cI, 401, .inl (fun _ => 0))), (k0, .inr (8, [.int 0, .ref k0_1, .ref k0_2, .int 0]))] sz) (fun q g => [(h0, .inr (5, [.int 0, .int 1, .int 0, .ref h0_3, .ref h0_4, .ref h0_5, .ref h0_6, .ref h0_7, .int 0, .ref h0_9, .ref h0_10, .int 0, .ref h0_12, .ref h0_13, .ref h0_14, .int 0, .int 0])), (h0_3, .inl (cI, 12, .inl (upd (fun _ => 0) 0 302))), (h0_4, .inl (cI, 12, .inl (upd (fun _ => 0) 0 0))), (h0_5, .inl (cI, 12, .inl (upd (fun _ => 0) 0 0))), (h0_6, .inl (cI, 12, .inl (upd (fun _ => 0) 0 0))), (h0_7, .inl (cI, 12, .inl (upd (fun _ => 0) 0 0))), (h0_12, .inl (cI, 401, .inl (upd (fun _ => 0) 0 302))), (h0_13, .inl (cI, 401, .inl (upd (fun _ => 0) 0 0))), (k0, .inr (8, [.int 0, .ref k0_1, .ref k0_2, .int 0]))])) 0 0 (va_A [(h0, .inr (5, [.int (-1), .int 0, .int 0, .ref h0_3, .ref h0_4, .ref h0_5, .ref h0_6, .ref h0_7, .int 0, .ref h0_9, .ref h0_10, .int 0, .ref h0_12, .ref h0_13, .ref h0_14, .int 0, .int 0])), (h0_3, .inl (cI, 12, .inl (fun _ => 0))), (h0_4, .inl (cI, 12, .inl (fun _ => 0))), (h0_5, .inl (cI, 12, .inl (fun _ => 0))), (h0_6, .inl (cI, 12, .inl (fun _ => 0))), (h0_7, .inl (cI, 12, .inl (fun _ => 0))), (h0_12, .inl (cI, 401, .inl (fun _ => 0))), (h0_13, .inl (cI, 401, .inl (fun _ => 0))), (k0, .inr (8, [.int 0, .ref k0_1, .ref k0_2, .int 0]))] sz) := by
  refine metW (cc := cX5_read) (maxL := 4) (ret := (some (.object "NoRent$Text"))) (by decide) rfl (Nat.le_of_ble_eq_true rfl) ?_
  intro p e s m below meth c A ls hx hb hr hml hown hts hlocks hin hKK hP hD hA hS hl
  have hK := hKK.1
  have hown : s.vm.findClass RX5 = some m.cls := hown
  have hl : lv_has ls 4 [(0, .ref h0), (1, .ref k0), (2, .int x)] := hl
  have hP : va_P G vwCl [(h0, .inr (5, [.int (-1), .int 0, .int 0, .ref h0_3, .ref h0_4, .ref h0_5, .ref h0_6, .ref h0_7, .int 0, .ref h0_9, .ref h0_10, .int 0, .ref h0_12, .ref h0_13, .ref h0_14, .int 0, .int 0])), (h0_3, .inl (cI, 12, .inl (fun _ => 0))), (h0_4, .inl (cI, 12, .inl (fun _ => 0))), (h0_5, .inl (cI, 12, .inl (fun _ => 0))), (h0_6, .inl (cI, 12, .inl (fun _ => 0))), (h0_7, .inl (cI, 12, .inl (fun _ => 0))), (h0_12, .inl (cI, 401, .inl (fun _ => 0))), (h0_13, .inl (cI, 401, .inl (fun _ => 0))), (k0, .inr (8, [.int 0, .ref k0_1, .ref k0_2, .int 0]))] s.heap := hP
  have hD : va_D A [(h0, .inr (5, [.int (-1), .int 0, .int 0, .ref h0_3, .ref h0_4, .ref h0_5, .ref h0_6, .ref h0_7, .int 0, .ref h0_9, .ref h0_10, .int 0, .ref h0_12, .ref h0_13, .ref h0_14, .int 0, .int 0])), (h0_3, .inl (cI, 12, .inl (fun _ => 0))), (h0_4, .inl (cI, 12, .inl (fun _ => 0))), (h0_5, .inl (cI, 12, .inl (fun _ => 0))), (h0_6, .inl (cI, 12, .inl (fun _ => 0))), (h0_7, .inl (cI, 12, .inl (fun _ => 0))), (h0_12, .inl (cI, 401, .inl (fun _ => 0))), (h0_13, .inl (cI, 401, .inl (fun _ => 0))), (k0, .inr (8, [.int 0, .ref k0_1, .ref k0_2, .int 0]))] := hD
  refine lv_aload_n hx hb dX5_read_0 rfl (lv_at hl 0 rfl) ?_
  refine lv_aload_n hx hb dX5_read_1 rfl (lv_at hl 1 rfl) ?_
  refine goV (As := [.ref k0]) (rest := []) (wr := [(h0_3, .inl (cI, 12, .inl (fun _ => 0))), (h0_4, .inl (cI, 12, .inl (fun _ => 0))), (h0_5, .inl (cI, 12, .inl (fun _ => 0))), (h0_6, .inl (cI, 12, .inl (fun _ => 0))), (h0_7, .inl (cI, 12, .inl (fun _ => 0)))]) ⟨hx, hb, hml, hown, hts⟩ (c_X5_split l G cI cJ cZ cD cR cT h0 k0 h0_3 h0_4 h0_5 h0_6 h0_7 h0_9 h0_10 h0_12 h0_13 h0_14 k0_1 k0_2 _) (cwV 1 hts gv_X5_read_46_X5_split rfl rfl rfl (by decide +kernel) ⟨Nat.le_of_ble_eq_true rfl, Nat.le_of_ble_eq_true rfl⟩) 0 rfl rfl rfl hKK hP hD hS hA [0, 6, 7, 8] [1, 2, 3, 4, 5] rfl rfl (by decide +kernel) (by decide +kernel) (by decide +kernel) rfl hl.1 rfl (lv_room (Nat.le_of_ble_eq_true rfl)) dX5_read_2 ⟨Nat.le_of_ble_eq_true rfl, Nat.le_of_ble_eq_true rfl⟩ (fun v2 q1 gq1 H locs hv2 => appW (ws' := [(h0_3, .inl (cI, 12, .inl (fun _ => 0))), (h0_4, .inl (cI, 12, .inl (fun _ => 0))), (h0_5, .inl (cI, 12, .inl (fun _ => 0))), (h0_6, .inl (cI, 12, .inl (fun _ => 0))), (h0_7, .inl (cI, 12, .inl (fun _ => 0))), (h0, .inr (5, [.int (-1), .int 0, .int 0, .ref h0_3, .ref h0_4, .ref h0_5, .ref h0_6, .ref h0_7, .int 0, .ref h0_9, .ref h0_10, .int 0, .ref h0_12, .ref h0_13, .ref h0_14, .int 0, .int 0])), (h0_12, .inl (cI, 401, .inl (upd (fun _ => 0) 0 302))), (h0_13, .inl (cI, 401, .inl (upd (fun _ => 0) 0 0))), (k0, .inr (8, [.int 0, .ref k0_1, .ref k0_2, .int 0]))]) rfl (fun hP hD hS => ?_))
  obtain rfl := hv2
  refine lv_aload_n hx hb dX5_read_5 rfl (lv_at hl 0 rfl) ?_
  refine lv_iconst (v := (-1)) hx hb dX5_read_6 (by decide) ?_
  refine va_put (D := G) (ci := 5) (v := .int (-1)) (ty := .int) (C := RX5) (T := TX5) (N := 17) hx hb hts cm_X5_read_1 tyX5 tyX5_ok nmX5 hown hK hP hD hS 5 rfl rfl 0 (by decide) (hts _ (dmem (j := 4) rfl)) (fun _ h9 => h9) rfl (by decide +kernel) rfl rfl (Nat.le_of_ble_eq_true rfl) dX5_read_7 (fun H locs => setW (ws' := [(h0_3, .inl (cI, 12, .inl (fun _ => 0))), (h0_4, .inl (cI, 12, .inl (fun _ => 0))), (h0_5, .inl (cI, 12, .inl (fun _ => 0))), (h0_6, .inl (cI, 12, .inl (fun _ => 0))), (h0_7, .inl (cI, 12, .inl (fun _ => 0))), (h0, .inr (5, [.int (-1), .int 0, .int 0, .ref h0_3, .ref h0_4, .ref h0_5, .ref h0_6, .ref h0_7, .int 0, .ref h0_9, .ref h0_10, .int 0, .ref h0_12, .ref h0_13, .ref h0_14, .int 0, .int 0])), (h0_12, .inl (cI, 401, .inl (upd (fun _ => 0) 0 302))), (h0_13, .inl (cI, 401, .inl (upd (fun _ => 0) 0 0))), (k0, .inr (8, [.int 0, .ref k0_1, .ref k0_2, .int 0]))]) rfl (fun hP hD hS => ?_))
  refine lv_aload_n hx hb dX5_read_10 rfl (lv_at hl 0 rfl) ?_
  refine lv_iconst (v := 0) hx hb dX5_read_11 (by decide) ?_
  refine va_put (D := G) (ci := 5) (v := .int 0) (ty := .int) (C := RX5) (T := TX5) (N := 17) hx hb hts cm_X5_read_1 tyX5 tyX5_ok nmX5 hown hK hP hD hS 5 rfl rfl 1 (by decide) (hts _ (dmem (j := 5) rfl)) (fun _ h9 => h9) rfl (by decide +kernel) rfl rfl (Nat.le_of_ble_eq_true rfl) dX5_read_12 (fun H locs => setW (ws' := [(h0_3, .inl (cI, 12, .inl (fun _ => 0))), (h0_4, .inl (cI, 12, .inl (fun _ => 0))), (h0_5, .inl (cI, 12, .inl (fun _ => 0))), (h0_6, .inl (cI, 12, .inl (fun _ => 0))), (h0_7, .inl (cI, 12, .inl (fun _ => 0))), (h0, .inr (5, [.int (-1), .int 0, .int 0, .ref h0_3, .ref h0_4, .ref h0_5, .ref h0_6, .ref h0_7, .int 0, .ref h0_9, .ref h0_10, .int 0, .ref h0_12, .ref h0_13, .ref h0_14, .int 0, .int 0])), (h0_12, .inl (cI, 401, .inl (upd (fun _ => 0) 0 302))), (h0_13, .inl (cI, 401, .inl (upd (fun _ => 0) 0 0))), (k0, .inr (8, [.int 0, .ref k0_1, .ref k0_2, .int 0]))]) rfl (fun hP hD hS => ?_))
  refine lv_aload_n hx hb dX5_read_15 rfl (lv_at hl 0 rfl) ?_
  refine lv_iconst (v := 0) hx hb dX5_read_16 (by decide) ?_
  refine va_put (D := G) (ci := 5) (v := .int 0) (ty := .boolean) (C := RX5) (T := TX5) (N := 17) hx hb hts cm_X5_read_1 tyX5 tyX5_ok nmX5 hown hK hP hD hS 5 rfl rfl 2 (by decide) (hts _ (dmem (j := 6) rfl)) (fun _ h9 => h9) rfl (by decide +kernel) (by decide) (by decide) (Nat.le_of_ble_eq_true rfl) dX5_read_17 (fun H locs => setW (ws' := [(h0_3, .inl (cI, 12, .inl (fun _ => 0))), (h0_4, .inl (cI, 12, .inl (fun _ => 0))), (h0_5, .inl (cI, 12, .inl (fun _ => 0))), (h0_6, .inl (cI, 12, .inl (fun _ => 0))), (h0_7, .inl (cI, 12, .inl (fun _ => 0))), (h0, .inr (5, [.int (-1), .int 0, .int 0, .ref h0_3, .ref h0_4, .ref h0_5, .ref h0_6, .ref h0_7, .int 0, .ref h0_9, .ref h0_10, .int 0, .ref h0_12, .ref h0_13, .ref h0_14, .int 0, .int 0])), (h0_12, .inl (cI, 401, .inl (upd (fun _ => 0) 0 302))), (h0_13, .inl (cI, 401, .inl (upd (fun _ => 0) 0 0))), (k0, .inr (8, [.int 0, .ref k0_1, .ref k0_2, .int 0]))]) rfl (fun hP hD hS => ?_))
  refine lv_aload_n hx hb dX5_read_20 rfl (lv_at hl 0 rfl) ?_
  refine lv_iconst (v := 0) hx hb dX5_read_21 (by decide) ?_
  refine va_put (D := G) (ci := 5) (v := .int 0) (ty := .int) (C := RX5) (T := TX5) (N := 17) hx hb hts cm_X5_read_1 tyX5 tyX5_ok nmX5 hown hK hP hD hS 5 rfl rfl 8 (by decide) (hts _ (dmem (j := 7) rfl)) (fun _ h9 => h9) rfl (by decide +kernel) rfl rfl (Nat.le_of_ble_eq_true rfl) dX5_read_22 (fun H locs => setW (ws' := [(h0_3, .inl (cI, 12, .inl (fun _ => 0))), (h0_4, .inl (cI, 12, .inl (fun _ => 0))), (h0_5, .inl (cI, 12, .inl (fun _ => 0))), (h0_6, .inl (cI, 12, .inl (fun _ => 0))), (h0_7, .inl (cI, 12, .inl (fun _ => 0))), (h0, .inr (5, [.int (-1), .int 0, .int 0, .ref h0_3, .ref h0_4, .ref h0_5, .ref h0_6, .ref h0_7, .int 0, .ref h0_9, .ref h0_10, .int 0, .ref h0_12, .ref h0_13, .ref h0_14, .int 0, .int 0])), (h0_12, .inl (cI, 401, .inl (upd (fun _ => 0) 0 302))), (h0_13, .inl (cI, 401, .inl (upd (fun _ => 0) 0 0))), (k0, .inr (8, [.int 0, .ref k0_1, .ref k0_2, .int 0]))]) rfl (fun hP hD hS => ?_))
  refine lv_aload_n hx hb dX5_read_25 rfl (lv_at hl 0 rfl) ?_
  refine lv_iconst (v := 0) hx hb dX5_read_26 (by decide) ?_
  refine va_put (D := G) (ci := 5) (v := .int 0) (ty := .int) (C := RX5) (T := TX5) (N := 17) hx hb hts cm_X5_read_1 tyX5 tyX5_ok nmX5 hown hK hP hD hS 5 rfl rfl 15 (by decide) (hts _ (dmem (j := 8) rfl)) (fun _ h9 => h9) rfl (by decide +kernel) rfl rfl (Nat.le_of_ble_eq_true rfl) dX5_read_27 (fun H locs => setW (ws' := [(h0_3, .inl (cI, 12, .inl (fun _ => 0))), (h0_4, .inl (cI, 12, .inl (fun _ => 0))), (h0_5, .inl (cI, 12, .inl (fun _ => 0))), (h0_6, .inl (cI, 12, .inl (fun _ => 0))), (h0_7, .inl (cI, 12, .inl (fun _ => 0))), (h0, .inr (5, [.int (-1), .int 0, .int 0, .ref h0_3, .ref h0_4, .ref h0_5, .ref h0_6, .ref h0_7, .int 0, .ref h0_9, .ref h0_10, .int 0, .ref h0_12, .ref h0_13, .ref h0_14, .int 0, .int 0])), (h0_12, .inl (cI, 401, .inl (upd (fun _ => 0) 0 302))), (h0_13, .inl (cI, 401, .inl (upd (fun _ => 0) 0 0))), (k0, .inr (8, [.int 0, .ref k0_1, .ref k0_2, .int 0]))]) rfl (fun hP hD hS => ?_))
  refine lv_aload_n hx hb dX5_read_30 rfl (lv_at hl 0 rfl) ?_
  refine lv_iconst (v := 0) hx hb dX5_read_31 (by decide) ?_
  refine va_put (D := G) (ci := 5) (v := .int 0) (ty := .int) (C := RX5) (T := TX5) (N := 17) hx hb hts cm_X5_read_1 tyX5 tyX5_ok nmX5 hown hK hP hD hS 5 rfl rfl 16 (by decide) (hts _ (dmem (j := 9) rfl)) (fun _ h9 => h9) rfl (by decide +kernel) rfl rfl (Nat.le_of_ble_eq_true rfl) dX5_read_32 (fun H locs => setW (ws' := [(h0_3, .inl (cI, 12, .inl (fun _ => 0))), (h0_4, .inl (cI, 12, .inl (fun _ => 0))), (h0_5, .inl (cI, 12, .inl (fun _ => 0))), (h0_6, .inl (cI, 12, .inl (fun _ => 0))), (h0_7, .inl (cI, 12, .inl (fun _ => 0))), (h0, .inr (5, [.int (-1), .int 0, .int 0, .ref h0_3, .ref h0_4, .ref h0_5, .ref h0_6, .ref h0_7, .int 0, .ref h0_9, .ref h0_10, .int 0, .ref h0_12, .ref h0_13, .ref h0_14, .int 0, .int 0])), (h0_12, .inl (cI, 401, .inl (upd (fun _ => 0) 0 302))), (h0_13, .inl (cI, 401, .inl (upd (fun _ => 0) 0 0))), (k0, .inr (8, [.int 0, .ref k0_1, .ref k0_2, .int 0]))]) rfl (fun hP hD hS => ?_))
  refine lv_aload_n hx hb dX5_read_35 rfl (lv_at hl 0 rfl) ?_
  refine goV (As := []) (rest := []) (wr := [(k0, .inr (8, [.int 0, .ref k0_1, .ref k0_2, .int 0]))]) ⟨hx, hb, hml, hown, hts⟩ (c_X5_readClause l G cI cJ cZ cD cR cT h0 h0_3 h0_4 h0_5 h0_6 h0_7 h0_9 h0_10 h0_12 h0_13 h0_14 _) (cwV 0 hts gv_X5_read_66_X5_readClause rfl rfl rfl (by decide +kernel) ⟨Nat.le_of_ble_eq_true rfl, Nat.le_of_ble_eq_true rfl⟩) 5 rfl rfl rfl hKK hP hD hS hA [5, 0, 1, 2, 3, 4, 6, 7] [8] rfl rfl (by decide +kernel) (by decide +kernel) (by decide +kernel) rfl hl.1 rfl (lv_room (Nat.le_of_ble_eq_true rfl)) dX5_read_36 ⟨Nat.le_of_ble_eq_true rfl, Nat.le_of_ble_eq_true rfl⟩ (fun v4 q3 gq3 H locs hv4 => appW (ws' := [(k0, .inr (8, [.int 0, .ref k0_1, .ref k0_2, .int 0])), (h0, .inr (5, [.int 0, .int 1, .int 0, .ref h0_3, .ref h0_4, .ref h0_5, .ref h0_6, .ref h0_7, .int 0, .ref h0_9, .ref h0_10, .int 0, .ref h0_12, .ref h0_13, .ref h0_14, .int 0, .int 0])), (h0_3, .inl (cI, 12, .inl (upd (fun _ => 0) 0 302))), (h0_4, .inl (cI, 12, .inl (upd (fun _ => 0) 0 0))), (h0_5, .inl (cI, 12, .inl (upd (fun _ => 0) 0 0))), (h0_6, .inl (cI, 12, .inl (upd (fun _ => 0) 0 0))), (h0_7, .inl (cI, 12, .inl (upd (fun _ => 0) 0 0))), (h0_12, .inl (cI, 401, .inl (upd (fun _ => 0) 0 302))), (h0_13, .inl (cI, 401, .inl (upd (fun _ => 0) 0 0)))]) rfl (fun hP hD hS => ?_))
  obtain rfl := hv4
  refine lv_iconst (v := 0) hx hb dX5_read_39 (by decide) ?_
  refine lv_istore_n (lv' := [(3, .int 0), (0, .ref h0), (1, .ref k0), (2, .int x)]) hx hb dX5_read_40 rfl hl (by decide) rfl (fun ls hl => ?_)
  refine lv_iload_n hx hb dX5_read_41 rfl (lv_at hl 0 rfl) ?_
  refine lv_aload_n hx hb dX5_read_42 rfl (lv_at hl 1 rfl) ?_
  refine va_get (D := G) (ci := 5) (v := .int 0) (C := RX5) (T := TX5) (N := 17) hx hb hts cm_X5_read_1 hown hK hP 1 rfl rfl 11 (by decide) (hts _ (dmem (j := 13) rfl)) (fun _ h9 => h9) rfl dX5_read_43 ?_
  refine lv_icmp_ge (tgt := 91) hx hb dX5_read_46 (by decide) (fun _ => ?_) (fun c => absurd c (by decide))
  refine lv_aload_n hx hb dX5_read_91 rfl (lv_at hl 1 rfl) ?_
  refine va_get (D := G) (ci := 5) (v := .ref h0_12) (C := RX5) (T := TX5) (N := 17) hx hb hts cm_X5_read_1 hown hK hP 1 rfl rfl 12 (by decide) (hts _ (dmem (j := 14) rfl)) (fun _ h9 => h9) rfl dX5_read_92 ?_
  refine lv_aload_n hx hb dX5_read_95 rfl (lv_at hl 1 rfl) ?_
  refine va_get (D := G) (ci := 5) (v := .int 0) (C := RX5) (T := TX5) (N := 17) hx hb hts cm_X5_read_1 hown hK hP 1 rfl rfl 15 (by decide) (hts _ (dmem (j := 8) rfl)) (fun _ h9 => h9) rfl dX5_read_96 ?_
  refine va_iald hx hb hK hP 7 0 rfl rfl (vp_in_iff.mpr (by decide)) dX5_read_99 ?_
  refine lv_topi (fun x5 ex5 => ?_)
  obtain rfl : 302 = x5 := (ex5.trans (by first | rfl | decide | (simp [upd, mrow]; done))).symm
  refine lv_sipush (v := 302) hx hb dX5_read_100 (by decide) ?_
  refine lv_icmp_eq (tgt := 110) hx hb dX5_read_103 (by decide) (fun _ => ?_) (fun c => absurd c (by decide))
  refine lv_aload_n hx hb dX5_read_110 rfl (lv_at hl 1 rfl) ?_
  refine va_get (D := G) (ci := 5) (v := .int 0) (C := RX5) (T := TX5) (N := 17) hx hb hts cm_X5_read_1 hown hK hP 1 rfl rfl 0 (by decide) (hts _ (dmem (j := 4) rfl)) (fun _ h9 => h9) rfl dX5_read_111 ?_
  refine lv_iconst (v := (-1)) hx hb dX5_read_114 (by decide) ?_
  refine lv_icmp_ne (tgt := 130) hx hb dX5_read_115 (by decide) (fun _ => ?_) (fun c => absurd c (by decide))
  refine lv_null hx hb dX5_read_130 ?_
  exact retN hx hb hr (Or.inl ⟨_, rfl⟩) hlocks rfl hP hD hS (fun _ => 0) (fun _ _ => 0) [1, 2, 3, 4, 5, 6, 7, 8, 0] (by decide +kernel) rfl dX5_read_131
def d_X11_canChoose : List Cond := [Cond.methodLink RX11 273 yX11_canGo, Cond.instanceMethod yX11_canGo, Cond.selects RX11 yX11_canGo yX11_canGo, Cond.initialized RX11, Cond.fieldLink RX11 312 "NoRent" "cropsTold" "I"]
def v_X11_canChoose : List Cond := Cond.code yX11_canChoose cX11_canChoose 3 (some .boolean) :: (d_X11_canChoose ++ (v_X11_canGo ++ (wsX110 ++ ([] : List Cond))))
theorem cm_X11_canChoose_0 : ∀ w ∈ v_X11_canGo, w ∈ v_X11_canChoose := fun _ h => List.mem_cons_of_mem _ (List.mem_append_right _ (List.mem_append_left _ h))
theorem cm_X11_canChoose_1 : ∀ w ∈ wsX110, w ∈ v_X11_canChoose := fun _ h => List.mem_cons_of_mem _ (List.mem_append_right _ (List.mem_append_right _ (List.mem_append_left _ h)))
theorem gd_X11_canChoose : Gd v_X11_canChoose := gd_mk (by decide +kernel) (gd_app gd_X11_canGo (gd_app gd_X11 gd_nil))
set_option maxRecDepth 20000 in
theorem gv_X11_canChoose_273_X11_canGo : GoodIn v_X11_canChoose (wsV RX11 273 RX11 yX11_canGo v_X11_canGo) := goodIn_app (goodIn_of _ (by decide +kernel)) (gi cm_X11_canChoose_0 gd_X11_canGo)
set_option maxHeartbeats 4000000 in
set_option maxRecDepth 100000 in
theorem c_X11_canChoose (l : Launch) (G : va_G) (cI cJ cZ cD cR cT : ClassId) (h0 : Nat) (x : Int32) (h0_0 : Nat) (h0_1 : Nat) (h0_2 : Nat) (h0_3 : Nat) (h0_6 : Nat) (h0_7 : Nat) (h0_8 : Nat) (h0_10 : Nat) (h0_11 : Nat) (h0_13 : Nat) (h0_0_0 : Nat) (h0_0_1 : Nat) (h0_0_2 : Nat) (h0_0_3 : Nat) (h0_0_4 : Nat) (h0_0_5 : Nat) (h0_0_8 : Nat) (h0_0_15 : Nat) (h0_0_16 : Nat) (sz : Nat) : Met l yX11_canChoose v_X11_canChoose ({ frames := 3, cells := 0, slots := 0, locals := 83 }) (va_Pc [.ref h0, .int x] (PreW G (tys6 cI cJ cZ cD cR cT) [(h0, .inr (11, [.ref h0_0, .ref h0_1, .ref h0_2, .ref h0_3, .int 0, .int 0, .ref h0_6, .ref h0_7, .ref h0_8, .int 0, .ref h0_10, .ref h0_11, .int 0, .ref h0_13, .int 0, .int 0])), (h0_0, .inr (0, [.ref h0_0_0, .ref h0_0_1, .ref h0_0_2, .ref h0_0_3, .ref h0_0_4, .ref h0_0_5, .int 0, .int 0, .ref h0_0_8, .int 0, .int 0, .int 0, .int 0, .long 0, .int 0, .ref h0_0_15, .ref h0_0_16]))] sz)) (QW (RI (fun r => r = 0)) G (va_A [(h0, .inr (11, [.ref h0_0, .ref h0_1, .ref h0_2, .ref h0_3, .int 0, .int 0, .ref h0_6, .ref h0_7, .ref h0_8, .int 0, .ref h0_10, .ref h0_11, .int 0, .ref h0_13, .int 0, .int 0])), (h0_0, .inr (0, [.ref h0_0_0, .ref h0_0_1, .ref h0_0_2, .ref h0_0_3, .ref h0_0_4, .ref h0_0_5, .int 0, .int 0, .ref h0_0_8, .int 0, .int 0, .int 0, .int 0, .long 0, .int 0, .ref h0_0_15, .ref h0_0_16]))] sz) (fun q g => [])) 0 0 (va_A [(h0, .inr (11, [.ref h0_0, .ref h0_1, .ref h0_2, .ref h0_3, .int 0, .int 0, .ref h0_6, .ref h0_7, .ref h0_8, .int 0, .ref h0_10, .ref h0_11, .int 0, .ref h0_13, .int 0, .int 0])), (h0_0, .inr (0, [.ref h0_0_0, .ref h0_0_1, .ref h0_0_2, .ref h0_0_3, .ref h0_0_4, .ref h0_0_5, .int 0, .int 0, .ref h0_0_8, .int 0, .int 0, .int 0, .int 0, .long 0, .int 0, .ref h0_0_15, .ref h0_0_16]))] sz) := by
  refine metW (cc := cX11_canChoose) (maxL := 3) (ret := (some .boolean)) (by decide) rfl (Nat.le_of_ble_eq_true rfl) ?_
  intro p e s m below meth c A ls hx hb hr hml hown hts hlocks hin hKK hP hD hA hS hl
  have hK := hKK.1
  have hown : s.vm.findClass RX11 = some m.cls := hown
  have hl : lv_has ls 3 [(0, .ref h0), (1, .int x)] := hl
  have hP : va_P G vwCl [(h0, .inr (11, [.ref h0_0, .ref h0_1, .ref h0_2, .ref h0_3, .int 0, .int 0, .ref h0_6, .ref h0_7, .ref h0_8, .int 0, .ref h0_10, .ref h0_11, .int 0, .ref h0_13, .int 0, .int 0])), (h0_0, .inr (0, [.ref h0_0_0, .ref h0_0_1, .ref h0_0_2, .ref h0_0_3, .ref h0_0_4, .ref h0_0_5, .int 0, .int 0, .ref h0_0_8, .int 0, .int 0, .int 0, .int 0, .long 0, .int 0, .ref h0_0_15, .ref h0_0_16]))] s.heap := hP
  have hD : va_D A [(h0, .inr (11, [.ref h0_0, .ref h0_1, .ref h0_2, .ref h0_3, .int 0, .int 0, .ref h0_6, .ref h0_7, .ref h0_8, .int 0, .ref h0_10, .ref h0_11, .int 0, .ref h0_13, .int 0, .int 0])), (h0_0, .inr (0, [.ref h0_0_0, .ref h0_0_1, .ref h0_0_2, .ref h0_0_3, .ref h0_0_4, .ref h0_0_5, .int 0, .int 0, .ref h0_0_8, .int 0, .int 0, .int 0, .int 0, .long 0, .int 0, .ref h0_0_15, .ref h0_0_16]))] := hD
  refine lv_aload_n hx hb dX11_canChoose_0 rfl (lv_at hl 0 rfl) ?_
  refine lv_iload_n hx hb dX11_canChoose_1 rfl (lv_at hl 1 rfl) ?_
  refine goV (As := [.int x]) (rest := []) (wr := []) ⟨hx, hb, hml, hown, hts⟩ (c_X11_canGo l G cI cJ cZ cD cR cT h0 x h0_0 h0_1 h0_2 h0_3 h0_6 h0_7 h0_8 h0_10 h0_11 h0_13 h0_0_0 h0_0_1 h0_0_2 h0_0_3 h0_0_4 h0_0_5 h0_0_8 h0_0_15 h0_0_16 x.toInt _ rfl) (cwV 1 hts gv_X11_canChoose_273_X11_canGo rfl rfl rfl (by decide +kernel) ⟨Nat.le_of_ble_eq_true rfl, Nat.le_of_ble_eq_true rfl⟩) 0 rfl rfl rfl hKK hP hD hS hA [0, 1] [] rfl rfl (by decide +kernel) (by decide +kernel) (by decide +kernel) rfl hl.1 rfl (lv_room (Nat.le_of_ble_eq_true rfl)) dX11_canChoose_2 ⟨Nat.le_of_ble_eq_true rfl, Nat.le_of_ble_eq_true rfl⟩ (fun v2 q1 gq1 H locs hv2 => appW (ws' := [(h0, .inr (11, [.ref h0_0, .ref h0_1, .ref h0_2, .ref h0_3, .int 0, .int 0, .ref h0_6, .ref h0_7, .ref h0_8, .int 0, .ref h0_10, .ref h0_11, .int 0, .ref h0_13, .int 0, .int 0])), (h0_0, .inr (0, [.ref h0_0_0, .ref h0_0_1, .ref h0_0_2, .ref h0_0_3, .ref h0_0_4, .ref h0_0_5, .int 0, .int 0, .ref h0_0_8, .int 0, .int 0, .int 0, .int 0, .long 0, .int 0, .ref h0_0_15, .ref h0_0_16]))]) rfl (fun hP hD hS => ?_))
  obtain ⟨_, rfl, h4⟩ := hv2
  rcases h4 with ⟨rfl, h4⟩ | ⟨rfl, h4⟩
  · refine lv_if_eq (tgt := 15) hx hb dX11_canChoose_5 (by decide) (fun c => absurd c (by decide)) (fun _ => ?_)
    refine lv_aload_n hx hb dX11_canChoose_8 rfl (lv_at hl 0 rfl) ?_
    refine va_get (D := G) (ci := 11) (v := .int 0) (C := RX11) (T := TX11) (N := 16) hx hb hts cm_X11_canChoose_1 hown hK hP 0 rfl rfl 12 (by decide) (hts _ (dmem (j := 4) rfl)) (fun _ h9 => h9) rfl dX11_canChoose_9 ?_
    refine lv_if_ne (tgt := 17) hx hb dX11_canChoose_12 (by decide) (fun c => absurd c (by decide)) (fun _ => ?_)
    refine lv_iconst (v := 0) hx hb dX11_canChoose_15 (by decide) ?_
    exact retZ hx hb hr hlocks (by decide) ⟨_, rfl, rfl⟩ hP hD hS (fun _ => 0) (fun _ _ => 0) [] (by decide +kernel) rfl dX11_canChoose_16
  · refine lv_if_eq (tgt := 15) hx hb dX11_canChoose_5 (by decide) (fun _ => ?_) (fun c => absurd c (by decide))
    refine lv_iconst (v := 0) hx hb dX11_canChoose_15 (by decide) ?_
    exact retZ hx hb hr hlocks (by decide) ⟨_, rfl, rfl⟩ hP hD hS (fun _ => 0) (fun _ _ => 0) [] (by decide +kernel) rfl dX11_canChoose_16
def d_X11_whyNoRow : List Cond := [Cond.methodLink RX11 191 yX11_isWeek, Cond.static yX11_isWeek, Cond.initialized RX11, Cond.fieldLink RX11 12 "NoRent" "county" "LNoRent$County;", Cond.fieldLink RX11 114 "NoRent$County" "land" "LNoRent$Land;", Cond.methodLink RX11 150 yX1_has, Cond.instanceMethod yX1_has, Cond.selects RX1 yX1_has yX1_has, Cond.initialized RX1]
def v_X11_whyNoRow : List Cond := Cond.code yX11_whyNoRow cX11_whyNoRow 4 (some .int) :: (d_X11_whyNoRow ++ (v_X11_isWeek ++ (wsX110 ++ (wsX00 ++ (v_X1_has ++ ([] : List Cond))))))
theorem cm_X11_whyNoRow_0 : ∀ w ∈ v_X11_isWeek, w ∈ v_X11_whyNoRow := fun _ h => List.mem_cons_of_mem _ (List.mem_append_right _ (List.mem_append_left _ h))
theorem cm_X11_whyNoRow_1 : ∀ w ∈ wsX110, w ∈ v_X11_whyNoRow := fun _ h => List.mem_cons_of_mem _ (List.mem_append_right _ (List.mem_append_right _ (List.mem_append_left _ h)))
theorem cm_X11_whyNoRow_2 : ∀ w ∈ wsX00, w ∈ v_X11_whyNoRow := fun _ h => List.mem_cons_of_mem _ (List.mem_append_right _ (List.mem_append_right _ (List.mem_append_right _ (List.mem_append_left _ h))))
theorem cm_X11_whyNoRow_3 : ∀ w ∈ v_X1_has, w ∈ v_X11_whyNoRow := fun _ h => List.mem_cons_of_mem _ (List.mem_append_right _ (List.mem_append_right _ (List.mem_append_right _ (List.mem_append_right _ (List.mem_append_left _ h)))))
theorem gd_X11_whyNoRow : Gd v_X11_whyNoRow := gd_mk (by decide +kernel) (gd_app gd_X11_isWeek (gd_app gd_X11 (gd_app gd_X0 (gd_app gd_X1_has gd_nil))))
set_option maxRecDepth 20000 in
theorem gv_X11_whyNoRow_191_X11_isWeek : GoodIn v_X11_whyNoRow (va_wsS RX11 191 yX11_isWeek v_X11_isWeek) := goodIn_app (goodIn_of _ (by decide +kernel)) (gi cm_X11_whyNoRow_0 gd_X11_isWeek)
set_option maxRecDepth 20000 in
theorem gv_X11_whyNoRow_150_X1_has : GoodIn v_X11_whyNoRow (wsV RX11 150 RX1 yX1_has v_X1_has) := goodIn_app (goodIn_of _ (by decide +kernel)) (gi cm_X11_whyNoRow_3 gd_X1_has)
set_option maxHeartbeats 4000000 in
set_option maxRecDepth 100000 in
theorem c_X11_whyNoRow (l : Launch) (G : va_G) (cI cJ cZ cD cR cT : ClassId) (h0 : Nat) (u1 : Int32) (u2 : Int32) (h0_0 : Nat) (h0_1 : Nat) (h0_2 : Nat) (h0_3 : Nat) (h0_6 : Nat) (h0_7 : Nat) (h0_8 : Nat) (h0_10 : Nat) (h0_11 : Nat) (h0_13 : Nat) (h0_0_0 : Nat) (h0_0_1 : Nat) (h0_0_2 : Nat) (h0_0_3 : Nat) (h0_0_4 : Nat) (h0_0_5 : Nat) (h0_0_8 : Nat) (h0_0_15 : Nat) (h0_0_16 : Nat) (h0_0_1_1 : Nat) (h0_0_1_2 : Nat) (h0_0_1_3 : Nat) (h0_0_1_4 : Nat) (h0_0_1_5 : Nat) (h0_0_1_6 : Nat) (h0_0_1_7 : Nat) (h0_0_1_9 : Nat) (h0_0_1_10 : Nat) (h0_0_1_11 : Nat) (sz : Nat) : Met l yX11_whyNoRow v_X11_whyNoRow ({ frames := 2, cells := 0, slots := 0, locals := 61 }) (va_Pc [.ref h0, .int u1, .int u2] (PreW G (tys6 cI cJ cZ cD cR cT) [(h0, .inr (11, [.ref h0_0, .ref h0_1, .ref h0_2, .ref h0_3, .int 0, .int 0, .ref h0_6, .ref h0_7, .ref h0_8, .int 0, .ref h0_10, .ref h0_11, .int 0, .ref h0_13, .int 0, .int 0])), (h0_0, .inr (0, [.ref h0_0_0, .ref h0_0_1, .ref h0_0_2, .ref h0_0_3, .ref h0_0_4, .ref h0_0_5, .int 0, .int 0, .ref h0_0_8, .int 0, .int 0, .int 0, .int 0, .long 0, .int 0, .ref h0_0_15, .ref h0_0_16])), (h0_0_1, .inr (1, [.int 0, .ref h0_0_1_1, .ref h0_0_1_2, .ref h0_0_1_3, .ref h0_0_1_4, .ref h0_0_1_5, .ref h0_0_1_6, .ref h0_0_1_7, .int 0, .ref h0_0_1_9, .ref h0_0_1_10, .ref h0_0_1_11, .int (-1), .long 0, .long 0]))] sz)) (QW (RI (fun r => (r = -2 ∧ (0 ≤ u1.toInt ∧ u1.toInt ≤ 399)) ∨ (r = -1 ∧ (u1.toInt < 0 ∨ 399 < u1.toInt)))) G (va_A [(h0, .inr (11, [.ref h0_0, .ref h0_1, .ref h0_2, .ref h0_3, .int 0, .int 0, .ref h0_6, .ref h0_7, .ref h0_8, .int 0, .ref h0_10, .ref h0_11, .int 0, .ref h0_13, .int 0, .int 0])), (h0_0, .inr (0, [.ref h0_0_0, .ref h0_0_1, .ref h0_0_2, .ref h0_0_3, .ref h0_0_4, .ref h0_0_5, .int 0, .int 0, .ref h0_0_8, .int 0, .int 0, .int 0, .int 0, .long 0, .int 0, .ref h0_0_15, .ref h0_0_16])), (h0_0_1, .inr (1, [.int 0, .ref h0_0_1_1, .ref h0_0_1_2, .ref h0_0_1_3, .ref h0_0_1_4, .ref h0_0_1_5, .ref h0_0_1_6, .ref h0_0_1_7, .int 0, .ref h0_0_1_9, .ref h0_0_1_10, .ref h0_0_1_11, .int (-1), .long 0, .long 0]))] sz) (fun q g => [(h0, .inr (11, [.ref h0_0, .ref h0_1, .ref h0_2, .ref h0_3, .int 0, .int 0, .ref h0_6, .ref h0_7, .ref h0_8, .int 0, .ref h0_10, .ref h0_11, .int 0, .ref h0_13, .int 0, .int 0])), (h0_0, .inr (0, [.ref h0_0_0, .ref h0_0_1, .ref h0_0_2, .ref h0_0_3, .ref h0_0_4, .ref h0_0_5, .int 0, .int 0, .ref h0_0_8, .int 0, .int 0, .int 0, .int 0, .long 0, .int 0, .ref h0_0_15, .ref h0_0_16])), (h0_0_1, .inr (1, [.int 0, .ref h0_0_1_1, .ref h0_0_1_2, .ref h0_0_1_3, .ref h0_0_1_4, .ref h0_0_1_5, .ref h0_0_1_6, .ref h0_0_1_7, .int 0, .ref h0_0_1_9, .ref h0_0_1_10, .ref h0_0_1_11, .int (-1), .long 0, .long 0]))])) 0 0 (va_A [(h0, .inr (11, [.ref h0_0, .ref h0_1, .ref h0_2, .ref h0_3, .int 0, .int 0, .ref h0_6, .ref h0_7, .ref h0_8, .int 0, .ref h0_10, .ref h0_11, .int 0, .ref h0_13, .int 0, .int 0])), (h0_0, .inr (0, [.ref h0_0_0, .ref h0_0_1, .ref h0_0_2, .ref h0_0_3, .ref h0_0_4, .ref h0_0_5, .int 0, .int 0, .ref h0_0_8, .int 0, .int 0, .int 0, .int 0, .long 0, .int 0, .ref h0_0_15, .ref h0_0_16])), (h0_0_1, .inr (1, [.int 0, .ref h0_0_1_1, .ref h0_0_1_2, .ref h0_0_1_3, .ref h0_0_1_4, .ref h0_0_1_5, .ref h0_0_1_6, .ref h0_0_1_7, .int 0, .ref h0_0_1_9, .ref h0_0_1_10, .ref h0_0_1_11, .int (-1), .long 0, .long 0]))] sz) := by
  refine metW (cc := cX11_whyNoRow) (maxL := 4) (ret := (some .int)) (by decide) rfl (Nat.le_of_ble_eq_true rfl) ?_
  intro p e s m below meth c A ls hx hb hr hml hown hts hlocks hin hKK hP hD hA hS hl
  have hK := hKK.1
  have hown : s.vm.findClass RX11 = some m.cls := hown
  have hl : lv_has ls 4 [(0, .ref h0), (1, .int u1), (2, .int u2)] := hl
  have hP : va_P G vwCl [(h0, .inr (11, [.ref h0_0, .ref h0_1, .ref h0_2, .ref h0_3, .int 0, .int 0, .ref h0_6, .ref h0_7, .ref h0_8, .int 0, .ref h0_10, .ref h0_11, .int 0, .ref h0_13, .int 0, .int 0])), (h0_0, .inr (0, [.ref h0_0_0, .ref h0_0_1, .ref h0_0_2, .ref h0_0_3, .ref h0_0_4, .ref h0_0_5, .int 0, .int 0, .ref h0_0_8, .int 0, .int 0, .int 0, .int 0, .long 0, .int 0, .ref h0_0_15, .ref h0_0_16])), (h0_0_1, .inr (1, [.int 0, .ref h0_0_1_1, .ref h0_0_1_2, .ref h0_0_1_3, .ref h0_0_1_4, .ref h0_0_1_5, .ref h0_0_1_6, .ref h0_0_1_7, .int 0, .ref h0_0_1_9, .ref h0_0_1_10, .ref h0_0_1_11, .int (-1), .long 0, .long 0]))] s.heap := hP
  have hD : va_D A [(h0, .inr (11, [.ref h0_0, .ref h0_1, .ref h0_2, .ref h0_3, .int 0, .int 0, .ref h0_6, .ref h0_7, .ref h0_8, .int 0, .ref h0_10, .ref h0_11, .int 0, .ref h0_13, .int 0, .int 0])), (h0_0, .inr (0, [.ref h0_0_0, .ref h0_0_1, .ref h0_0_2, .ref h0_0_3, .ref h0_0_4, .ref h0_0_5, .int 0, .int 0, .ref h0_0_8, .int 0, .int 0, .int 0, .int 0, .long 0, .int 0, .ref h0_0_15, .ref h0_0_16])), (h0_0_1, .inr (1, [.int 0, .ref h0_0_1_1, .ref h0_0_1_2, .ref h0_0_1_3, .ref h0_0_1_4, .ref h0_0_1_5, .ref h0_0_1_6, .ref h0_0_1_7, .int 0, .ref h0_0_1_9, .ref h0_0_1_10, .ref h0_0_1_11, .int (-1), .long 0, .long 0]))] := hD
  refine lv_iload_n hx hb dX11_whyNoRow_0 rfl (lv_at hl 1 rfl) ?_
  refine goS (As := [.int u1]) (rest := []) (wr := [(h0, .inr (11, [.ref h0_0, .ref h0_1, .ref h0_2, .ref h0_3, .int 0, .int 0, .ref h0_6, .ref h0_7, .ref h0_8, .int 0, .ref h0_10, .ref h0_11, .int 0, .ref h0_13, .int 0, .int 0])), (h0_0, .inr (0, [.ref h0_0_0, .ref h0_0_1, .ref h0_0_2, .ref h0_0_3, .ref h0_0_4, .ref h0_0_5, .int 0, .int 0, .ref h0_0_8, .int 0, .int 0, .int 0, .int 0, .long 0, .int 0, .ref h0_0_15, .ref h0_0_16])), (h0_0_1, .inr (1, [.int 0, .ref h0_0_1_1, .ref h0_0_1_2, .ref h0_0_1_3, .ref h0_0_1_4, .ref h0_0_1_5, .ref h0_0_1_6, .ref h0_0_1_7, .int 0, .ref h0_0_1_9, .ref h0_0_1_10, .ref h0_0_1_11, .int (-1), .long 0, .long 0]))]) ⟨hx, hb, hml, hown, hts⟩ (c_X11_isWeek l G cI cJ cZ cD cR cT u1 u1.toInt _ rfl) (va_cwS 1 hts gv_X11_whyNoRow_191_X11_isWeek rfl rfl rfl (by decide +kernel) ⟨Nat.le_of_ble_eq_true rfl, Nat.le_of_ble_eq_true rfl⟩) hKK hP hD hS hA [] [0, 1, 2] rfl rfl (by decide +kernel) (by decide +kernel) (by decide +kernel) rfl hl.1 rfl (lv_room (Nat.le_of_ble_eq_true rfl)) dX11_whyNoRow_1 ⟨Nat.le_of_ble_eq_true rfl, Nat.le_of_ble_eq_true rfl⟩ (fun v2 q1 gq1 H locs hv2 => appW (ws' := [(h0, .inr (11, [.ref h0_0, .ref h0_1, .ref h0_2, .ref h0_3, .int 0, .int 0, .ref h0_6, .ref h0_7, .ref h0_8, .int 0, .ref h0_10, .ref h0_11, .int 0, .ref h0_13, .int 0, .int 0])), (h0_0, .inr (0, [.ref h0_0_0, .ref h0_0_1, .ref h0_0_2, .ref h0_0_3, .ref h0_0_4, .ref h0_0_5, .int 0, .int 0, .ref h0_0_8, .int 0, .int 0, .int 0, .int 0, .long 0, .int 0, .ref h0_0_15, .ref h0_0_16])), (h0_0_1, .inr (1, [.int 0, .ref h0_0_1_1, .ref h0_0_1_2, .ref h0_0_1_3, .ref h0_0_1_4, .ref h0_0_1_5, .ref h0_0_1_6, .ref h0_0_1_7, .int 0, .ref h0_0_1_9, .ref h0_0_1_10, .ref h0_0_1_11, .int (-1), .long 0, .long 0]))]) rfl (fun hP hD hS => ?_))
  obtain ⟨_, rfl, h4⟩ := hv2
  rcases h4 with ⟨rfl, h4⟩ | ⟨rfl, h4⟩
  · refine lv_if_ne (tgt := 9) hx hb dX11_whyNoRow_4 (by decide) (fun _ => ?_) (fun c => absurd c (by decide))
    refine lv_aload_n hx hb dX11_whyNoRow_9 rfl (lv_at hl 0 rfl) ?_
    refine va_get (D := G) (ci := 11) (v := .ref h0_0) (C := RX11) (T := TX11) (N := 16) hx hb hts cm_X11_whyNoRow_1 hown hK hP 0 rfl rfl 0 (by decide) (hts _ (dmem (j := 3) rfl)) (fun _ h9 => h9) rfl dX11_whyNoRow_10 ?_
    refine va_get (D := G) (ci := 0) (v := .ref h0_0_1) (C := RX0) (T := TX0) (N := 17) hx hb hts cm_X11_whyNoRow_2 hown hK hP 1 rfl rfl 1 (by decide) (hts _ (dmem (j := 4) rfl)) (fun _ h9 => h9) rfl dX11_whyNoRow_13 ?_
    refine lv_iload_n hx hb dX11_whyNoRow_16 rfl (lv_at hl 2 rfl) ?_
    refine goV (As := [.int u2]) (rest := []) (wr := [(h0, .inr (11, [.ref h0_0, .ref h0_1, .ref h0_2, .ref h0_3, .int 0, .int 0, .ref h0_6, .ref h0_7, .ref h0_8, .int 0, .ref h0_10, .ref h0_11, .int 0, .ref h0_13, .int 0, .int 0])), (h0_0, .inr (0, [.ref h0_0_0, .ref h0_0_1, .ref h0_0_2, .ref h0_0_3, .ref h0_0_4, .ref h0_0_5, .int 0, .int 0, .ref h0_0_8, .int 0, .int 0, .int 0, .int 0, .long 0, .int 0, .ref h0_0_15, .ref h0_0_16]))]) ⟨hx, hb, hml, hown, hts⟩ (c_X1_has l G cI cJ cZ cD cR cT h0_0_1 u2 h0_0_1_1 h0_0_1_2 h0_0_1_3 h0_0_1_4 h0_0_1_5 h0_0_1_6 h0_0_1_7 h0_0_1_9 h0_0_1_10 h0_0_1_11 _) (cwV 1 hts gv_X11_whyNoRow_150_X1_has rfl rfl rfl (by decide +kernel) ⟨Nat.le_of_ble_eq_true rfl, Nat.le_of_ble_eq_true rfl⟩) 2 rfl rfl rfl hKK hP hD hS hA [2] [0, 1] rfl rfl (by decide +kernel) (by decide +kernel) (by decide +kernel) rfl hl.1 rfl (lv_room (Nat.le_of_ble_eq_true rfl)) dX11_whyNoRow_17 ⟨Nat.le_of_ble_eq_true rfl, Nat.le_of_ble_eq_true rfl⟩ (fun v6 q5 gq5 H locs hv6 => appW (ws' := [(h0, .inr (11, [.ref h0_0, .ref h0_1, .ref h0_2, .ref h0_3, .int 0, .int 0, .ref h0_6, .ref h0_7, .ref h0_8, .int 0, .ref h0_10, .ref h0_11, .int 0, .ref h0_13, .int 0, .int 0])), (h0_0, .inr (0, [.ref h0_0_0, .ref h0_0_1, .ref h0_0_2, .ref h0_0_3, .ref h0_0_4, .ref h0_0_5, .int 0, .int 0, .ref h0_0_8, .int 0, .int 0, .int 0, .int 0, .long 0, .int 0, .ref h0_0_15, .ref h0_0_16])), (h0_0_1, .inr (1, [.int 0, .ref h0_0_1_1, .ref h0_0_1_2, .ref h0_0_1_3, .ref h0_0_1_4, .ref h0_0_1_5, .ref h0_0_1_6, .ref h0_0_1_7, .int 0, .ref h0_0_1_9, .ref h0_0_1_10, .ref h0_0_1_11, .int (-1), .long 0, .long 0]))]) rfl (fun hP hD hS => ?_))
    obtain ⟨_, rfl, rfl⟩ := hv6
    refine lv_if_ne (tgt := 26) hx hb dX11_whyNoRow_20 (by decide) (fun c => absurd c (by decide)) (fun _ => ?_)
    refine lv_bipush (v := (-2)) hx hb dX11_whyNoRow_23 (by decide) ?_
    exact retI hx hb hr hlocks ⟨_, rfl, Or.inl ⟨rfl, by omega⟩⟩ hP hD hS (fun _ => 0) (fun _ _ => 0) [0, 1, 2] (by decide +kernel) rfl dX11_whyNoRow_25
  · refine lv_if_ne (tgt := 9) hx hb dX11_whyNoRow_4 (by decide) (fun c => absurd c (by decide)) (fun _ => ?_)
    refine lv_iconst (v := (-1)) hx hb dX11_whyNoRow_7 (by decide) ?_
    exact retI hx hb hr hlocks ⟨_, rfl, Or.inr (⟨rfl, by omega⟩)⟩ hP hD hS (fun _ => 0) (fun _ _ => 0) [0, 1, 2] (by decide +kernel) rfl dX11_whyNoRow_8
