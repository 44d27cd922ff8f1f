theorem dX11_accept_0 : decode cX11_accept 0 = .ok (.aload_n 0, 1) := by decide +kernel
theorem dX11_accept_1 : decode cX11_accept 1 = .ok (.iconst 0, 1) := by decide +kernel
theorem dX11_accept_2 : decode cX11_accept 2 = .ok (.putfield 356, 3) := by decide +kernel
theorem dX11_accept_5 : decode cX11_accept 5 = .ok (.iload_n 1, 1) := by decide +kernel
theorem dX11_accept_6 : decode cX11_accept 6 = .ok (.ireturn, 1) := by decide +kernel
theorem dX11_agree_0 : decode cX11_agree 0 = .ok (.iload_n 1, 1) := by decide +kernel
theorem dX11_agree_1 : decode cX11_agree 1 = .ok (.sipush (-10000), 3) := by decide +kernel
theorem dX11_agree_4 : decode cX11_agree 4 = .ok (.sipush 10000, 3) := by decide +kernel
theorem dX11_agree_7 : decode cX11_agree 7 = .ok (.invokestatic 54, 3) := by decide +kernel
theorem dX11_within_0 : decode cX11_within 0 = .ok (.iload_n 0, 1) := by decide +kernel
theorem dX11_within_1 : decode cX11_within 1 = .ok (.iload_n 1, 1) := by decide +kernel
theorem dX11_within_2 : decode cX11_within 2 = .ok (.if_icmp .lt 12, 3) := by decide +kernel
theorem dX11_within_14 : decode cX11_within 14 = .ok (.iconst 0, 1) := by decide +kernel
theorem dX11_within_15 : decode cX11_within 15 = .ok (.ireturn, 1) := by decide +kernel
theorem dX11_within_5 : decode cX11_within 5 = .ok (.iload_n 0, 1) := by decide +kernel
theorem dX11_within_6 : decode cX11_within 6 = .ok (.iload_n 2, 1) := by decide +kernel
theorem dX11_within_7 : decode cX11_within 7 = .ok (.if_icmp .gt 7, 3) := by decide +kernel
theorem dX11_within_10 : decode cX11_within 10 = .ok (.iconst 1, 1) := by decide +kernel
theorem dX11_within_11 : decode cX11_within 11 = .ok (.goto 4, 3) := by decide +kernel
theorem dX11_agree_10 : decode cX11_agree 10 = .ok (.ifCond .eq 16, 3) := by decide +kernel
theorem dX11_agree_26 : decode cX11_agree 26 = .ok (.iconst (-1), 1) := by decide +kernel
theorem dX11_agree_27 : decode cX11_agree 27 = .ok (.ireturn, 1) := by decide +kernel
theorem dX11_agree_13 : decode cX11_agree 13 = .ok (.iload_n 2, 1) := by decide +kernel
theorem dX11_agree_14 : decode cX11_agree 14 = .ok (.sipush (-10000), 3) := by decide +kernel
theorem dX11_agree_17 : decode cX11_agree 17 = .ok (.sipush 10000, 3) := by decide +kernel
theorem dX11_agree_20 : decode cX11_agree 20 = .ok (.invokestatic 54, 3) := by decide +kernel
theorem dX11_agree_23 : decode cX11_agree 23 = .ok (.ifCond .ne 5, 3) := by decide +kernel
theorem dX11_agree_28 : decode cX11_agree 28 = .ok (.aload_n 0, 1) := by decide +kernel
theorem dX11_agree_29 : decode cX11_agree 29 = .ok (.getfield 12, 3) := by decide +kernel
theorem dX11_agree_32 : decode cX11_agree 32 = .ok (.getfield 98, 3) := by decide +kernel
theorem dX11_agree_35 : decode cX11_agree 35 = .ok (.iload_n 1, 1) := by decide +kernel
theorem dX11_agree_36 : decode cX11_agree 36 = .ok (.iload_n 2, 1) := by decide +kernel
theorem dX11_agree_37 : decode cX11_agree 37 = .ok (.invokevirtual 303, 3) := by decide +kernel
theorem dX11_agree_40 : decode cX11_agree 40 = .ok (.ireturn, 1) := by decide +kernel
theorem dX11_alter_0 : decode cX11_alter 0 = .ok (.iload_n 2, 1) := by decide +kernel
theorem dX11_alter_1 : decode cX11_alter 1 = .ok (.iconst 1, 1) := by decide +kernel
theorem dX11_alter_2 : decode cX11_alter 2 = .ok (.sipush 255, 3) := by decide +kernel
theorem dX11_alter_5 : decode cX11_alter 5 = .ok (.invokestatic 54, 3) := by decide +kernel
theorem dX11_alter_8 : decode cX11_alter 8 = .ok (.ifCond .ne 9, 3) := by decide +kernel
theorem dX11_alter_17 : decode cX11_alter 17 = .ok (.aload_n 0, 1) := by decide +kernel
theorem dX11_alter_18 : decode cX11_alter 18 = .ok (.getfield 12, 3) := by decide +kernel
theorem dX11_alter_21 : decode cX11_alter 21 = .ok (.getfield 114, 3) := by decide +kernel
theorem dX11_alter_24 : decode cX11_alter 24 = .ok (.iload_n 1, 1) := by decide +kernel
theorem dX11_alter_25 : decode cX11_alter 25 = .ok (.invokevirtual 150, 3) := by decide +kernel
theorem dX11_alter_28 : decode cX11_alter 28 = .ok (.ifCond .ne 10, 3) := by decide +kernel
theorem dX11_alter_38 : decode cX11_alter 38 = .ok (.aload_n 0, 1) := by decide +kernel
theorem dX11_alter_39 : decode cX11_alter 39 = .ok (.getfield 12, 3) := by decide +kernel
theorem dX11_alter_42 : decode cX11_alter 42 = .ok (.getfield 114, 3) := by decide +kernel
theorem dX11_alter_45 : decode cX11_alter 45 = .ok (.getfield 157, 3) := by decide +kernel
theorem dX11_alter_48 : decode cX11_alter 48 = .ok (.iload_n 1, 1) := by decide +kernel
theorem dX11_alter_49 : decode cX11_alter 49 = .ok (.dup2, 1) := by decide +kernel
theorem dX11_alter_50 : decode cX11_alter 50 = .ok (.iaload, 1) := by decide +kernel
theorem dX11_alter_51 : decode cX11_alter 51 = .ok (.iload_n 2, 1) := by decide +kernel
theorem dX11_alter_52 : decode cX11_alter 52 = .ok (.ixor, 1) := by decide +kernel
theorem dX11_alter_53 : decode cX11_alter 53 = .ok (.iastore, 1) := by decide +kernel
theorem dX11_alter_54 : decode cX11_alter 54 = .ok (.aload_n 0, 1) := by decide +kernel
theorem dX11_alter_55 : decode cX11_alter 55 = .ok (.aload_n 0, 1) := by decide +kernel
theorem dX11_alter_56 : decode cX11_alter 56 = .ok (.getfield 12, 3) := by decide +kernel
theorem dX11_alter_59 : decode cX11_alter 59 = .ok (.getfield 114, 3) := by decide +kernel
theorem dX11_alter_62 : decode cX11_alter 62 = .ok (.getfield 157, 3) := by decide +kernel
theorem dX11_alter_65 : decode cX11_alter 65 = .ok (.iload_n 1, 1) := by decide +kernel
theorem dX11_alter_66 : decode cX11_alter 66 = .ok (.iaload, 1) := by decide +kernel
theorem dX11_alter_67 : decode cX11_alter 67 = .ok (.invokevirtual 77, 3) := by decide +kernel
theorem dX11_alter_70 : decode cX11_alter 70 = .ok (.ireturn, 1) := by decide +kernel
theorem dX11_alter_31 : decode cX11_alter 31 = .ok (.aload_n 0, 1) := by decide +kernel
theorem dX11_alter_32 : decode cX11_alter 32 = .ok (.bipush (-2), 2) := by decide +kernel
theorem dX11_alter_34 : decode cX11_alter 34 = .ok (.invokevirtual 59, 3) := by decide +kernel
theorem dX11_refuse_0 : decode cX11_refuse 0 = .ok (.aload_n 0, 1) := by decide +kernel
theorem dX11_refuse_1 : decode cX11_refuse 1 = .ok (.iload_n 1, 1) := by decide +kernel
theorem dX11_refuse_2 : decode cX11_refuse 2 = .ok (.putfield 356, 3) := by decide +kernel
theorem dX11_refuse_5 : decode cX11_refuse 5 = .ok (.iload_n 1, 1) := by decide +kernel
theorem dX11_refuse_6 : decode cX11_refuse 6 = .ok (.ireturn, 1) := by decide +kernel
theorem dX11_alter_37 : decode cX11_alter 37 = .ok (.ireturn, 1) := by decide +kernel
theorem dX11_alter_11 : decode cX11_alter 11 = .ok (.aload_n 0, 1) := by decide +kernel
theorem dX11_alter_12 : decode cX11_alter 12 = .ok (.iconst (-1), 1) := by decide +kernel
theorem dX11_alter_13 : decode cX11_alter 13 = .ok (.invokevirtual 59, 3) := by decide +kernel
theorem dX11_alter_16 : decode cX11_alter 16 = .ok (.ireturn, 1) := by decide +kernel
theorem dX11_avoid_0 : decode cX11_avoid 0 = .ok (.aload_n 0, 1) := by decide +kernel
theorem dX11_avoid_1 : decode cX11_avoid 1 = .ok (.getfield 12, 3) := by decide +kernel
theorem dX11_avoid_4 : decode cX11_avoid 4 = .ok (.getfield 114, 3) := by decide +kernel
theorem dX11_avoid_7 : decode cX11_avoid 7 = .ok (.iload_n 1, 1) := by decide +kernel
theorem dX11_avoid_8 : decode cX11_avoid 8 = .ok (.invokevirtual 150, 3) := by decide +kernel
theorem dX11_avoid_11 : decode cX11_avoid 11 = .ok (.ifCond .ne 10, 3) := by decide +kernel
theorem dX11_avoid_21 : decode cX11_avoid 21 = .ok (.aload_n 0, 1) := by decide +kernel
theorem dX11_avoid_22 : decode cX11_avoid 22 = .ok (.getfield 12, 3) := by decide +kernel
theorem dX11_avoid_25 : decode cX11_avoid 25 = .ok (.getfield 170, 3) := by decide +kernel
theorem dX11_avoid_28 : decode cX11_avoid 28 = .ok (.iload_n 1, 1) := by decide +kernel
theorem dX11_avoid_29 : decode cX11_avoid 29 = .ok (.invokevirtual 248, 3) := by decide +kernel
theorem dX11_avoid_32 : decode cX11_avoid 32 = .ok (.istore_n 2, 1) := by decide +kernel
theorem dX11_avoid_33 : decode cX11_avoid 33 = .ok (.iload_n 2, 1) := by decide +kernel
theorem dX11_avoid_34 : decode cX11_avoid 34 = .ok (.iconst (-1), 1) := by decide +kernel
theorem dX11_avoid_35 : decode cX11_avoid 35 = .ok (.if_icmp .ne 10, 3) := by decide +kernel
theorem dX11_avoid_45 : decode cX11_avoid 45 = .ok (.aload_n 0, 1) := by decide +kernel
theorem dX11_avoid_46 : decode cX11_avoid 46 = .ok (.getfield 12, 3) := by decide +kernel
theorem dX11_avoid_49 : decode cX11_avoid 49 = .ok (.getfield 170, 3) := by decide +kernel
theorem dX11_avoid_52 : decode cX11_avoid 52 = .ok (.getfield 261, 3) := by decide +kernel
theorem dX11_avoid_55 : decode cX11_avoid 55 = .ok (.iload_n 2, 1) := by decide +kernel
theorem dX11_avoid_56 : decode cX11_avoid 56 = .ok (.iconst 0, 1) := by decide +kernel
theorem dX11_avoid_57 : decode cX11_avoid 57 = .ok (.iastore, 1) := by decide +kernel
theorem dX11_avoid_58 : decode cX11_avoid 58 = .ok (.aload_n 0, 1) := by decide +kernel
theorem dX11_avoid_59 : decode cX11_avoid 59 = .ok (.iconst 0, 1) := by decide +kernel
theorem dX11_avoid_60 : decode cX11_avoid 60 = .ok (.invokevirtual 77, 3) := by decide +kernel
theorem dX11_avoid_63 : decode cX11_avoid 63 = .ok (.ireturn, 1) := by decide +kernel
theorem dX11_avoid_38 : decode cX11_avoid 38 = .ok (.aload_n 0, 1) := by decide +kernel
theorem dX11_avoid_39 : decode cX11_avoid 39 = .ok (.bipush (-3), 2) := by decide +kernel
theorem dX11_avoid_41 : decode cX11_avoid 41 = .ok (.invokevirtual 59, 3) := by decide +kernel
theorem dX11_avoid_44 : decode cX11_avoid 44 = .ok (.ireturn, 1) := by decide +kernel
theorem dX11_avoid_14 : decode cX11_avoid 14 = .ok (.aload_n 0, 1) := by decide +kernel
theorem dX11_avoid_15 : decode cX11_avoid 15 = .ok (.bipush (-2), 2) := by decide +kernel
theorem dX11_avoid_17 : decode cX11_avoid 17 = .ok (.invokevirtual 59, 3) := by decide +kernel
theorem dX11_avoid_20 : decode cX11_avoid 20 = .ok (.ireturn, 1) := by decide +kernel
theorem dX11_back_0 : decode cX11_back 0 = .ok (.iload_n 1, 1) := by decide +kernel
theorem dX11_back_1 : decode cX11_back 1 = .ok (.iconst 0, 1) := by decide +kernel
theorem dX11_back_2 : decode cX11_back 2 = .ok (.iconst 1, 1) := by decide +kernel
theorem dX11_back_3 : decode cX11_back 3 = .ok (.invokestatic 54, 3) := by decide +kernel
theorem dX11_back_6 : decode cX11_back 6 = .ok (.ifCond .ne 9, 3) := by decide +kernel
theorem dX11_back_15 : decode cX11_back 15 = .ok (.iload_n 1, 1) := by decide +kernel
theorem dX11_back_16 : decode cX11_back 16 = .ok (.ifCond .ne 13, 3) := by decide +kernel
theorem dX11_back_29 : decode cX11_back 29 = .ok (.aload_n 0, 1) := by decide +kernel
theorem dX11_back_30 : decode cX11_back 30 = .ok (.getfield 353, 3) := by decide +kernel
theorem dX11_back_33 : decode cX11_back 33 = .ok (.ifCond .ne 10, 3) := by decide +kernel
theorem dX11_back_43 : decode cX11_back 43 = .ok (.aload_n 0, 1) := by decide +kernel
theorem dX11_back_44 : decode cX11_back 44 = .ok (.getfield 12, 3) := by decide +kernel
theorem dX11_back_47 : decode cX11_back 47 = .ok (.iload_n 1, 1) := by decide +kernel
theorem dX11_back_48 : decode cX11_back 48 = .ok (.ifCond .ne 10, 3) := by decide +kernel
theorem dX11_back_58 : decode cX11_back 58 = .ok (.aload_n 0, 1) := by decide +kernel
theorem dX11_back_59 : decode cX11_back 59 = .ok (.getfield 24, 3) := by decide +kernel
theorem dX11_back_62 : decode cX11_back 62 = .ok (.invokevirtual 345, 3) := by decide +kernel
theorem dX11_back_65 : decode cX11_back 65 = .ok (.aload_n 0, 1) := by decide +kernel
theorem dX11_back_66 : decode cX11_back 66 = .ok (.iconst 0, 1) := by decide +kernel
theorem dX11_back_67 : decode cX11_back 67 = .ok (.invokevirtual 77, 3) := by decide +kernel
theorem dX11_back_70 : decode cX11_back 70 = .ok (.ireturn, 1) := by decide +kernel
theorem dX11_back_36 : decode cX11_back 36 = .ok (.aload_n 0, 1) := by decide +kernel
theorem dX11_back_37 : decode cX11_back 37 = .ok (.bipush (-2), 2) := by decide +kernel
theorem dX11_back_39 : decode cX11_back 39 = .ok (.invokevirtual 59, 3) := by decide +kernel
theorem dX11_back_42 : decode cX11_back 42 = .ok (.ireturn, 1) := by decide +kernel
theorem dX11_back_19 : decode cX11_back 19 = .ok (.aload_n 0, 1) := by decide +kernel
theorem dX11_back_20 : decode cX11_back 20 = .ok (.getfield 349, 3) := by decide +kernel
theorem dX11_back_23 : decode cX11_back 23 = .ok (.ifCond .ne 20, 3) := by decide +kernel
theorem dX11_back_51 : decode cX11_back 51 = .ok (.aload_n 0, 1) := by decide +kernel
theorem dX11_back_52 : decode cX11_back 52 = .ok (.getfield 21, 3) := by decide +kernel
theorem dX11_back_55 : decode cX11_back 55 = .ok (.goto 7, 3) := by decide +kernel
theorem dX11_back_26 : decode cX11_back 26 = .ok (.goto 10, 3) := by decide +kernel
theorem dX11_back_9 : decode cX11_back 9 = .ok (.aload_n 0, 1) := by decide +kernel
theorem dX11_back_10 : decode cX11_back 10 = .ok (.iconst (-1), 1) := by decide +kernel
theorem dX11_back_11 : decode cX11_back 11 = .ok (.invokevirtual 59, 3) := by decide +kernel
theorem dX11_back_14 : decode cX11_back 14 = .ok (.ireturn, 1) := by decide +kernel
theorem dX11_bitsOfRow_0 : decode cX11_bitsOfRow 0 = .ok (.iconst 0, 1) := by decide +kernel
theorem dX11_bitsOfRow_1 : decode cX11_bitsOfRow 1 = .ok (.istore_n 2, 1) := by decide +kernel
theorem dX11_bitsOfRow_2 : decode cX11_bitsOfRow 2 = .ok (.iconst 0, 1) := by decide +kernel
theorem dX11_bitsOfRow_3 : decode cX11_bitsOfRow 3 = .ok (.istore_n 3, 1) := by decide +kernel
theorem dX11_bitsOfRow_4 : decode cX11_bitsOfRow 4 = .ok (.iload_n 3, 1) := by decide +kernel
theorem dX11_bitsOfRow_5 : decode cX11_bitsOfRow 5 = .ok (.aload_n 0, 1) := by decide +kernel
theorem dX11_bitsOfRow_6 : decode cX11_bitsOfRow 6 = .ok (.getfield 309, 3) := by decide +kernel
theorem dX11_bitsOfRow_9 : decode cX11_bitsOfRow 9 = .ok (.if_icmp .ge 26, 3) := by decide +kernel
theorem dX11_bitsOfRow_35 : decode cX11_bitsOfRow 35 = .ok (.iload_n 2, 1) := by decide +kernel
theorem dX11_bitsOfRow_36 : decode cX11_bitsOfRow 36 = .ok (.ireturn, 1) := by decide +kernel
theorem dX11_bitsOfRow_12 : decode cX11_bitsOfRow 12 = .ok (.iload_n 2, 1) := by decide +kernel
theorem dX11_bitsOfRow_13 : decode cX11_bitsOfRow 13 = .ok (.iload_n 1, 1) := by decide +kernel
theorem dX11_bitsOfRow_14 : decode cX11_bitsOfRow 14 = .ok (.iload_n 3, 1) := by decide +kernel
theorem dX11_bitsOfRow_15 : decode cX11_bitsOfRow 15 = .ok (.ishr, 1) := by decide +kernel
theorem dX11_bitsOfRow_16 : decode cX11_bitsOfRow 16 = .ok (.iconst 1, 1) := by decide +kernel
theorem dX11_bitsOfRow_17 : decode cX11_bitsOfRow 17 = .ok (.iand, 1) := by decide +kernel
theorem dX11_bitsOfRow_18 : decode cX11_bitsOfRow 18 = .ok (.aload_n 0, 1) := by decide +kernel
theorem dX11_bitsOfRow_19 : decode cX11_bitsOfRow 19 = .ok (.getfield 309, 3) := by decide +kernel
theorem dX11_bitsOfRow_22 : decode cX11_bitsOfRow 22 = .ok (.iconst 1, 1) := by decide +kernel
theorem dX11_bitsOfRow_23 : decode cX11_bitsOfRow 23 = .ok (.isub, 1) := by decide +kernel
theorem dX11_bitsOfRow_24 : decode cX11_bitsOfRow 24 = .ok (.iload_n 3, 1) := by decide +kernel
theorem dX11_bitsOfRow_25 : decode cX11_bitsOfRow 25 = .ok (.isub, 1) := by decide +kernel
theorem dX11_bitsOfRow_26 : decode cX11_bitsOfRow 26 = .ok (.ishl, 1) := by decide +kernel
theorem dX11_bitsOfRow_27 : decode cX11_bitsOfRow 27 = .ok (.ior, 1) := by decide +kernel
theorem dX11_bitsOfRow_28 : decode cX11_bitsOfRow 28 = .ok (.istore_n 2, 1) := by decide +kernel
theorem dX11_bitsOfRow_29 : decode cX11_bitsOfRow 29 = .ok (.iinc 3 1, 3) := by decide +kernel
theorem dX11_bitsOfRow_32 : decode cX11_bitsOfRow 32 = .ok (.goto (-28), 3) := by decide +kernel
theorem dX11_brave_0 : decode cX11_brave 0 = .ok (.iload_n 1, 1) := by decide +kernel
theorem dX11_brave_1 : decode cX11_brave 1 = .ok (.iconst 0, 1) := by decide +kernel
theorem dX11_brave_2 : decode cX11_brave 2 = .ok (.bipush 101, 2) := by decide +kernel
theorem dX11_brave_4 : decode cX11_brave 4 = .ok (.invokestatic 54, 3) := by decide +kernel
theorem dX11_brave_7 : decode cX11_brave 7 = .ok (.ifCond .ne 9, 3) := by decide +kernel
theorem dX11_brave_16 : decode cX11_brave 16 = .ok (.aload_n 0, 1) := by decide +kernel
theorem dX11_brave_17 : decode cX11_brave 17 = .ok (.getfield 12, 3) := by decide +kernel
theorem dX11_brave_20 : decode cX11_brave 20 = .ok (.getfield 98, 3) := by decide +kernel
theorem dX11_brave_23 : decode cX11_brave 23 = .ok (.getfield 282, 3) := by decide +kernel
theorem dX11_brave_26 : decode cX11_brave 26 = .ok (.istore_n 2, 1) := by decide +kernel
theorem dX11_brave_27 : decode cX11_brave 27 = .ok (.aload_n 0, 1) := by decide +kernel
theorem dX11_brave_28 : decode cX11_brave 28 = .ok (.getfield 12, 3) := by decide +kernel
theorem dX11_brave_31 : decode cX11_brave 31 = .ok (.getfield 98, 3) := by decide +kernel
theorem dX11_brave_34 : decode cX11_brave 34 = .ok (.iload_n 1, 1) := by decide +kernel
theorem dX11_brave_35 : decode cX11_brave 35 = .ok (.putfield 282, 3) := by decide +kernel
theorem dX11_brave_38 : decode cX11_brave 38 = .ok (.aload_n 0, 1) := by decide +kernel
theorem dX11_brave_39 : decode cX11_brave 39 = .ok (.iload_n 2, 1) := by decide +kernel
theorem dX11_brave_40 : decode cX11_brave 40 = .ok (.invokevirtual 77, 3) := by decide +kernel
theorem dX11_brave_43 : decode cX11_brave 43 = .ok (.ireturn, 1) := by decide +kernel
theorem dX11_brave_10 : decode cX11_brave 10 = .ok (.aload_n 0, 1) := by decide +kernel
theorem dX11_brave_11 : decode cX11_brave 11 = .ok (.iconst (-1), 1) := by decide +kernel
theorem dX11_brave_12 : decode cX11_brave 12 = .ok (.invokevirtual 59, 3) := by decide +kernel
theorem dX11_brave_15 : decode cX11_brave 15 = .ok (.ireturn, 1) := by decide +kernel
theorem dX11_broke_0 : decode cX11_broke 0 = .ok (.aload_n 0, 1) := by decide +kernel
theorem dX11_broke_1 : decode cX11_broke 1 = .ok (.getfield 12, 3) := by decide +kernel
theorem dX11_broke_4 : decode cX11_broke 4 = .ok (.getfield 63, 3) := by decide +kernel
theorem dX11_broke_7 : decode cX11_broke 7 = .ok (.astore 5, 2) := by decide +kernel
theorem dX11_broke_9 : decode cX11_broke 9 = .ok (.aload 5, 2) := by decide +kernel
theorem dX11_broke_11 : decode cX11_broke 11 = .ok (.iload_n 1, 1) := by decide +kernel
theorem dX11_broke_12 : decode cX11_broke 12 = .ok (.invokevirtual 80, 3) := by decide +kernel
theorem dX11_broke_15 : decode cX11_broke 15 = .ok (.ifCond .eq 33, 3) := by decide +kernel
theorem dX11_broke_48 : decode cX11_broke 48 = .ok (.iconst (-1), 1) := by decide +kernel
theorem dX11_broke_49 : decode cX11_broke 49 = .ok (.ireturn, 1) := by decide +kernel
theorem dX11_broke_18 : decode cX11_broke 18 = .ok (.aload 5, 2) := by decide +kernel
theorem dX11_broke_20 : decode cX11_broke 20 = .ok (.getfield 141, 3) := by decide +kernel
theorem dX11_broke_23 : decode cX11_broke 23 = .ok (.iload_n 1, 1) := by decide +kernel
theorem dX11_broke_24 : decode cX11_broke 24 = .ok (.iaload, 1) := by decide +kernel
theorem dX11_broke_25 : decode cX11_broke 25 = .ok (.ifCond .eq 23, 3) := by decide +kernel
theorem dX11_broke_28 : decode cX11_broke 28 = .ok (.iload_n 2, 1) := by decide +kernel
theorem dX11_broke_29 : decode cX11_broke 29 = .ok (.iconst 1, 1) := by decide +kernel
theorem dX11_broke_30 : decode cX11_broke 30 = .ok (.sipush 10000, 3) := by decide +kernel
theorem dX11_broke_33 : decode cX11_broke 33 = .ok (.invokestatic 54, 3) := by decide +kernel
theorem dX11_broke_36 : decode cX11_broke 36 = .ok (.ifCond .eq 12, 3) := by decide +kernel
theorem dX11_broke_39 : decode cX11_broke 39 = .ok (.iload_n 3, 1) := by decide +kernel
theorem dX11_broke_40 : decode cX11_broke 40 = .ok (.iconst 0, 1) := by decide +kernel
theorem dX11_broke_41 : decode cX11_broke 41 = .ok (.iconst 2, 1) := by decide +kernel
theorem dX11_broke_42 : decode cX11_broke 42 = .ok (.invokestatic 54, 3) := by decide +kernel
theorem dX11_broke_45 : decode cX11_broke 45 = .ok (.ifCond .ne 5, 3) := by decide +kernel
theorem dX11_broke_50 : decode cX11_broke 50 = .ok (.iconst 0, 1) := by decide +kernel
theorem dX11_broke_51 : decode cX11_broke 51 = .ok (.istore 6, 2) := by decide +kernel
theorem dX11_broke_53 : decode cX11_broke 53 = .ok (.iconst (-1), 1) := by decide +kernel
theorem dX11_broke_54 : decode cX11_broke 54 = .ok (.istore 7, 2) := by decide +kernel
theorem dX11_broke_56 : decode cX11_broke 56 = .ok (.iload_n 3, 1) := by decide +kernel
theorem dX11_broke_57 : decode cX11_broke 57 = .ok (.iconst 2, 1) := by decide +kernel
theorem dX11_broke_58 : decode cX11_broke 58 = .ok (.if_icmp .ne 8, 3) := by decide +kernel
theorem dX11_broke_67 : decode cX11_broke 67 = .ok (.istore 8, 2) := by decide +kernel
theorem dX11_broke_69 : decode cX11_broke 69 = .ok (.iconst 0, 1) := by decide +kernel
theorem dX11_broke_70 : decode cX11_broke 70 = .ok (.istore 9, 2) := by decide +kernel
theorem dX11_broke_72 : decode cX11_broke 72 = .ok (.iload 9, 2) := by decide +kernel
theorem dX11_broke_74 : decode cX11_broke 74 = .ok (.aload 5, 2) := by decide +kernel
theorem dX11_broke_76 : decode cX11_broke 76 = .ok (.getfield 67, 3) := by decide +kernel
theorem dX11_broke_79 : decode cX11_broke 79 = .ok (.if_icmp .ge 50, 3) := by decide +kernel
theorem dX11_broke_129 : decode cX11_broke 129 = .ok (.iload_n 3, 1) := by decide +kernel
theorem dX11_broke_130 : decode cX11_broke 130 = .ok (.iconst 1, 1) := by decide +kernel
theorem dX11_broke_131 : decode cX11_broke 131 = .ok (.if_icmp .ne 6, 3) := by decide +kernel
theorem dX11_broke_137 : decode cX11_broke 137 = .ok (.iload_n 3, 1) := by decide +kernel
theorem dX11_broke_138 : decode cX11_broke 138 = .ok (.ifCond .ne 13, 3) := by decide +kernel
theorem dX11_broke_153 : decode cX11_broke 153 = .ok (.ireturn, 1) := by decide +kernel
theorem dX11_broke_151 : decode cX11_broke 151 = .ok (.iload 7, 2) := by decide +kernel
theorem dX11_broke_141 : decode cX11_broke 141 = .ok (.iload 6, 2) := by decide +kernel
theorem dX11_broke_143 : decode cX11_broke 143 = .ok (.iconst 1, 1) := by decide +kernel
theorem dX11_broke_144 : decode cX11_broke 144 = .ok (.if_icmp .eq 7, 3) := by decide +kernel
theorem dX11_broke_147 : decode cX11_broke 147 = .ok (.iconst (-1), 1) := by decide +kernel
theorem dX11_broke_148 : decode cX11_broke 148 = .ok (.goto 5, 3) := by decide +kernel
theorem dX11_broke_134 : decode cX11_broke 134 = .ok (.iload 6, 2) := by decide +kernel
theorem dX11_broke_136 : decode cX11_broke 136 = .ok (.ireturn, 1) := by decide +kernel
theorem dX11_broke_82 : decode cX11_broke 82 = .ok (.aload 5, 2) := by decide +kernel
theorem dX11_broke_84 : decode cX11_broke 84 = .ok (.iload 9, 2) := by decide +kernel
theorem dX11_broke_86 : decode cX11_broke 86 = .ok (.iload_n 1, 1) := by decide +kernel
theorem dX11_broke_87 : decode cX11_broke 87 = .ok (.iload_n 2, 1) := by decide +kernel
theorem dX11_broke_88 : decode cX11_broke 88 = .ok (.aload_n 0, 1) := by decide +kernel
theorem dX11_broke_89 : decode cX11_broke 89 = .ok (.getfield 12, 3) := by decide +kernel
theorem dX11_broke_92 : decode cX11_broke 92 = .ok (.getfield 98, 3) := by decide +kernel
theorem dX11_broke_95 : decode cX11_broke 95 = .ok (.getfield 282, 3) := by decide +kernel
theorem dX11_broke_98 : decode cX11_broke 98 = .ok (.invokevirtual 291, 3) := by decide +kernel
theorem dX11_broke_101 : decode cX11_broke 101 = .ok (.ifCond .eq 22, 3) := by decide +kernel
theorem dX11_broke_123 : decode cX11_broke 123 = .ok (.iinc 9 1, 3) := by decide +kernel
theorem dX11_broke_126 : decode cX11_broke 126 = .ok (.goto (-54), 3) := by decide +kernel
theorem dX11_broke_104 : decode cX11_broke 104 = .ok (.iload 6, 2) := by decide +kernel
theorem dX11_broke_106 : decode cX11_broke 106 = .ok (.iload 8, 2) := by decide +kernel
theorem dX11_broke_108 : decode cX11_broke 108 = .ok (.if_icmp .ne 8, 3) := by decide +kernel
theorem dX11_broke_118 : decode cX11_broke 118 = .ok (.istore 7, 2) := by decide +kernel
theorem dX11_broke_120 : decode cX11_broke 120 = .ok (.iinc 6 1, 3) := by decide +kernel
theorem dX11_broke_116 : decode cX11_broke 116 = .ok (.iload 7, 2) := by decide +kernel
theorem dX11_broke_111 : decode cX11_broke 111 = .ok (.iload 9, 2) := by decide +kernel
theorem dX11_broke_113 : decode cX11_broke 113 = .ok (.goto 5, 3) := by decide +kernel
theorem dX11_broke_66 : decode cX11_broke 66 = .ok (.iconst 0, 1) := by decide +kernel
theorem dX11_broke_61 : decode cX11_broke 61 = .ok (.iload 4, 2) := by decide +kernel
theorem dX11_broke_63 : decode cX11_broke 63 = .ok (.goto 4, 3) := by decide +kernel
theorem dX11_canChoose_0 : decode cX11_canChoose 0 = .ok (.aload_n 0, 1) := by decide +kernel
theorem dX11_canChoose_1 : decode cX11_canChoose 1 = .ok (.iload_n 1, 1) := by decide +kernel
theorem dX11_canChoose_2 : decode cX11_canChoose 2 = .ok (.invokevirtual 273, 3) := by decide +kernel
theorem dX11_canGo_0 : decode cX11_canGo 0 = .ok (.iload_n 1, 1) := by decide +kernel
theorem dX11_canGo_1 : decode cX11_canGo 1 = .ok (.iconst 1, 1) := by decide +kernel
theorem dX11_canGo_2 : decode cX11_canGo 2 = .ok (.bipush 104, 2) := by decide +kernel
theorem dX11_canGo_4 : decode cX11_canGo 4 = .ok (.invokestatic 54, 3) := by decide +kernel
theorem dX11_canGo_7 : decode cX11_canGo 7 = .ok (.ifCond .eq 22, 3) := by decide +kernel
theorem dX11_canGo_29 : decode cX11_canGo 29 = .ok (.iconst 0, 1) := by decide +kernel
theorem dX11_canGo_30 : decode cX11_canGo 30 = .ok (.ireturn, 1) := by decide +kernel
theorem dX11_canGo_10 : decode cX11_canGo 10 = .ok (.aload_n 0, 1) := by decide +kernel
theorem dX11_canGo_11 : decode cX11_canGo 11 = .ok (.getfield 12, 3) := by decide +kernel
theorem dX11_canGo_14 : decode cX11_canGo 14 = .ok (.getfield 255, 3) := by decide +kernel
theorem dX11_canGo_17 : decode cX11_canGo 17 = .ok (.iload_n 1, 1) := by decide +kernel
theorem dX11_canGo_18 : decode cX11_canGo 18 = .ok (.iadd, 1) := by decide +kernel
theorem dX11_canGo_19 : decode cX11_canGo 19 = .ok (.sipush 399, 3) := by decide +kernel
theorem dX11_canGo_22 : decode cX11_canGo 22 = .ok (.if_icmp .gt 7, 3) := by decide +kernel
theorem dX11_canGo_25 : decode cX11_canGo 25 = .ok (.iconst 1, 1) := by decide +kernel
theorem dX11_canGo_26 : decode cX11_canGo 26 = .ok (.goto 4, 3) := by decide +kernel
theorem dX11_canChoose_5 : decode cX11_canChoose 5 = .ok (.ifCond .eq 10, 3) := by decide +kernel
theorem dX11_canChoose_15 : decode cX11_canChoose 15 = .ok (.iconst 0, 1) := by decide +kernel
theorem dX11_canChoose_16 : decode cX11_canChoose 16 = .ok (.ireturn, 1) := by decide +kernel
theorem dX11_canChoose_8 : decode cX11_canChoose 8 = .ok (.aload_n 0, 1) := by decide +kernel
theorem dX11_canChoose_9 : decode cX11_canChoose 9 = .ok (.getfield 312, 3) := by decide +kernel
theorem dX11_canChoose_12 : decode cX11_canChoose 12 = .ok (.ifCond .ne 5, 3) := by decide +kernel
theorem dX11_canChoose_17 : decode cX11_canChoose 17 = .ok (.iconst 0, 1) := by decide +kernel
theorem dX11_canChoose_18 : decode cX11_canChoose 18 = .ok (.istore_n 2, 1) := by decide +kernel
theorem dX11_canChoose_19 : decode cX11_canChoose 19 = .ok (.iload_n 2, 1) := by decide +kernel
theorem dX11_canChoose_20 : decode cX11_canChoose 20 = .ok (.aload_n 0, 1) := by decide +kernel
theorem dX11_canChoose_21 : decode cX11_canChoose 21 = .ok (.getfield 309, 3) := by decide +kernel
theorem dX11_canChoose_24 : decode cX11_canChoose 24 = .ok (.if_icmp .ge 30, 3) := by decide +kernel
theorem dX11_canChoose_54 : decode cX11_canChoose 54 = .ok (.iconst 1, 1) := by decide +kernel
theorem dX11_canChoose_55 : decode cX11_canChoose 55 = .ok (.ireturn, 1) := by decide +kernel
theorem dX11_canChoose_27 : decode cX11_canChoose 27 = .ok (.aload_n 0, 1) := by decide +kernel
theorem dX11_canChoose_28 : decode cX11_canChoose 28 = .ok (.getfield 12, 3) := by decide +kernel
theorem dX11_canChoose_31 : decode cX11_canChoose 31 = .ok (.getfield 114, 3) := by decide +kernel
theorem dX11_canChoose_34 : decode cX11_canChoose 34 = .ok (.aload_n 0, 1) := by decide +kernel
theorem dX11_canChoose_35 : decode cX11_canChoose 35 = .ok (.getfield 41, 3) := by decide +kernel
theorem dX11_canChoose_38 : decode cX11_canChoose 38 = .ok (.iload_n 2, 1) := by decide +kernel
theorem dX11_canChoose_39 : decode cX11_canChoose 39 = .ok (.iaload, 1) := by decide +kernel
theorem dX11_canChoose_40 : decode cX11_canChoose 40 = .ok (.invokevirtual 150, 3) := by decide +kernel
theorem dX11_canChoose_43 : decode cX11_canChoose 43 = .ok (.ifCond .ne 5, 3) := by decide +kernel
theorem dX11_canChoose_48 : decode cX11_canChoose 48 = .ok (.iinc 2 1, 3) := by decide +kernel
theorem dX11_canChoose_51 : decode cX11_canChoose 51 = .ok (.goto (-32), 3) := by decide +kernel
theorem dX11_canChoose_46 : decode cX11_canChoose 46 = .ok (.iconst 0, 1) := by decide +kernel
theorem dX11_canChoose_47 : decode cX11_canChoose 47 = .ok (.ireturn, 1) := by decide +kernel
theorem dX11_choose_0 : decode cX11_choose 0 = .ok (.aload_n 0, 1) := by decide +kernel
theorem dX11_choose_1 : decode cX11_choose 1 = .ok (.iload_n 1, 1) := by decide +kernel
theorem dX11_choose_2 : decode cX11_choose 2 = .ok (.invokevirtual 315, 3) := by decide +kernel
theorem dX11_choose_5 : decode cX11_choose 5 = .ok (.ifCond .ne 5, 3) := by decide +kernel
theorem dX11_choose_10 : decode cX11_choose 10 = .ok (.bipush 41, 2) := by decide +kernel
theorem dX11_choose_12 : decode cX11_choose 12 = .ok (.istore_n 2, 1) := by decide +kernel
theorem dX11_choose_13 : decode cX11_choose 13 = .ok (.iconst 0, 1) := by decide +kernel
theorem dX11_choose_14 : decode cX11_choose 14 = .ok (.istore_n 3, 1) := by decide +kernel
theorem dX11_choose_15 : decode cX11_choose 15 = .ok (.iconst 0, 1) := by decide +kernel
theorem dX11_choose_16 : decode cX11_choose 16 = .ok (.istore 4, 2) := by decide +kernel
theorem dX11_choose_18 : decode cX11_choose 18 = .ok (.iload 4, 2) := by decide +kernel
theorem dX11_choose_20 : decode cX11_choose 20 = .ok (.aload_n 0, 1) := by decide +kernel
theorem dX11_choose_21 : decode cX11_choose 21 = .ok (.getfield 309, 3) := by decide +kernel
theorem dX11_choose_24 : decode cX11_choose 24 = .ok (.if_icmp .gt 80, 3) := by decide +kernel
theorem dX11_choose_104 : decode cX11_choose 104 = .ok (.iconst 0, 1) := by decide +kernel
theorem dX11_choose_105 : decode cX11_choose 105 = .ok (.istore 4, 2) := by decide +kernel
theorem dX11_choose_107 : decode cX11_choose 107 = .ok (.iload 4, 2) := by decide +kernel
theorem dX11_choose_109 : decode cX11_choose 109 = .ok (.aload_n 0, 1) := by decide +kernel
theorem dX11_choose_110 : decode cX11_choose 110 = .ok (.getfield 309, 3) := by decide +kernel
theorem dX11_choose_113 : decode cX11_choose 113 = .ok (.if_icmp .ge 22, 3) := by decide +kernel
theorem dX11_choose_135 : decode cX11_choose 135 = .ok (.aload_n 0, 1) := by decide +kernel
theorem dX11_choose_136 : decode cX11_choose 136 = .ok (.aload_n 0, 1) := by decide +kernel
theorem dX11_choose_137 : decode cX11_choose 137 = .ok (.getfield 309, 3) := by decide +kernel
theorem dX11_choose_140 : decode cX11_choose 140 = .ok (.putfield 329, 3) := by decide +kernel
theorem dX11_choose_143 : decode cX11_choose 143 = .ok (.iload_n 2, 1) := by decide +kernel
theorem dX11_choose_144 : decode cX11_choose 144 = .ok (.ireturn, 1) := by decide +kernel
theorem dX11_choose_116 : decode cX11_choose 116 = .ok (.aload_n 0, 1) := by decide +kernel
theorem dX11_choose_117 : decode cX11_choose 117 = .ok (.getfield 51, 3) := by decide +kernel
theorem dX11_choose_120 : decode cX11_choose 120 = .ok (.iload 4, 2) := by decide +kernel
theorem dX11_choose_122 : decode cX11_choose 122 = .ok (.iload_n 3, 1) := by decide +kernel
theorem dX11_choose_123 : decode cX11_choose 123 = .ok (.iload 4, 2) := by decide +kernel
theorem dX11_choose_125 : decode cX11_choose 125 = .ok (.ishr, 1) := by decide +kernel
theorem dX11_choose_126 : decode cX11_choose 126 = .ok (.iconst 1, 1) := by decide +kernel
theorem dX11_choose_127 : decode cX11_choose 127 = .ok (.iand, 1) := by decide +kernel
theorem dX11_choose_128 : decode cX11_choose 128 = .ok (.iastore, 1) := by decide +kernel
theorem dX11_choose_129 : decode cX11_choose 129 = .ok (.iinc 4 1, 3) := by decide +kernel
theorem dX11_choose_132 : decode cX11_choose 132 = .ok (.goto (-25), 3) := by decide +kernel
theorem dX11_choose_27 : decode cX11_choose 27 = .ok (.iload_n 2, 1) := by decide +kernel
theorem dX11_choose_28 : decode cX11_choose 28 = .ok (.ifCond .le 76, 3) := by decide +kernel
theorem dX11_choose_31 : decode cX11_choose 31 = .ok (.iconst 0, 1) := by decide +kernel
theorem dX11_choose_32 : decode cX11_choose 32 = .ok (.istore 5, 2) := by decide +kernel
theorem dX11_choose_34 : decode cX11_choose 34 = .ok (.iload 5, 2) := by decide +kernel
theorem dX11_choose_36 : decode cX11_choose 36 = .ok (.iconst 1, 1) := by decide +kernel
theorem dX11_choose_37 : decode cX11_choose 37 = .ok (.aload_n 0, 1) := by decide +kernel
theorem dX11_choose_38 : decode cX11_choose 38 = .ok (.getfield 309, 3) := by decide +kernel
theorem dX11_choose_41 : decode cX11_choose 41 = .ok (.ishl, 1) := by decide +kernel
theorem dX11_choose_42 : decode cX11_choose 42 = .ok (.if_icmp .ge 56, 3) := by decide +kernel
theorem dX11_choose_98 : decode cX11_choose 98 = .ok (.iinc 4 1, 3) := by decide +kernel
theorem dX11_choose_101 : decode cX11_choose 101 = .ok (.goto (-83), 3) := by decide +kernel
theorem dX11_choose_45 : decode cX11_choose 45 = .ok (.iload_n 2, 1) := by decide +kernel
theorem dX11_choose_46 : decode cX11_choose 46 = .ok (.ifCond .le 52, 3) := by decide +kernel
theorem dX11_choose_49 : decode cX11_choose 49 = .ok (.iload 5, 2) := by decide +kernel
theorem dX11_choose_51 : decode cX11_choose 51 = .ok (.invokestatic 318, 3) := by decide +kernel
theorem dX11_choose_54 : decode cX11_choose 54 = .ok (.iload 4, 2) := by decide +kernel
theorem dX11_choose_56 : decode cX11_choose 56 = .ok (.if_icmp .eq 6, 3) := by decide +kernel
theorem dX11_choose_92 : decode cX11_choose 92 = .ok (.iinc 5 1, 3) := by decide +kernel
theorem dX11_choose_95 : decode cX11_choose 95 = .ok (.goto (-61), 3) := by decide +kernel
theorem dX11_choose_62 : decode cX11_choose 62 = .ok (.aload_n 0, 1) := by decide +kernel
theorem dX11_choose_63 : decode cX11_choose 63 = .ok (.iload 5, 2) := by decide +kernel
theorem dX11_choose_65 : decode cX11_choose 65 = .ok (.invokevirtual 323, 3) := by decide +kernel
theorem dX11_choose_68 : decode cX11_choose 68 = .ok (.istore 6, 2) := by decide +kernel
theorem dX11_choose_70 : decode cX11_choose 70 = .ok (.aload_n 0, 1) := by decide +kernel
theorem dX11_choose_71 : decode cX11_choose 71 = .ok (.iload 6, 2) := by decide +kernel
theorem dX11_choose_73 : decode cX11_choose 73 = .ok (.iload_n 1, 1) := by decide +kernel
theorem dX11_choose_74 : decode cX11_choose 74 = .ok (.iload_n 2, 1) := by decide +kernel
theorem dX11_choose_75 : decode cX11_choose 75 = .ok (.invokevirtual 326, 3) := by decide +kernel
theorem dX11_worstOf_0 : decode cX11_worstOf 0 = .ok (.iconst 0, 1) := by decide +kernel
theorem dX11_worstOf_1 : decode cX11_worstOf 1 = .ok (.istore 4, 2) := by decide +kernel
theorem dX11_worstOf_3 : decode cX11_worstOf 3 = .ok (.iconst 0, 1) := by decide +kernel
theorem dX11_worstOf_4 : decode cX11_worstOf 4 = .ok (.istore 5, 2) := by decide +kernel
theorem dX11_worstOf_6 : decode cX11_worstOf 6 = .ok (.iload 5, 2) := by decide +kernel
theorem dX11_worstOf_8 : decode cX11_worstOf 8 = .ok (.aload_n 0, 1) := by decide +kernel
theorem dX11_worstOf_9 : decode cX11_worstOf 9 = .ok (.getfield 312, 3) := by decide +kernel
theorem dX11_worstOf_12 : decode cX11_worstOf 12 = .ok (.if_icmp .ge 133, 3) := by decide +kernel
theorem dX11_worstOf_145 : decode cX11_worstOf 145 = .ok (.iload 4, 2) := by decide +kernel
theorem dX11_worstOf_147 : decode cX11_worstOf 147 = .ok (.ireturn, 1) := by decide +kernel
theorem dX11_worstOf_15 : decode cX11_worstOf 15 = .ok (.iload 4, 2) := by decide +kernel
theorem dX11_worstOf_17 : decode cX11_worstOf 17 = .ok (.iload_n 3, 1) := by decide +kernel
theorem dX11_worstOf_18 : decode cX11_worstOf 18 = .ok (.if_icmp .ge 127, 3) := by decide +kernel
theorem dX11_worstOf_21 : decode cX11_worstOf 21 = .ok (.aload_n 0, 1) := by decide +kernel
theorem dX11_worstOf_22 : decode cX11_worstOf 22 = .ok (.getfield 18, 3) := by decide +kernel
theorem dX11_worstOf_25 : decode cX11_worstOf 25 = .ok (.aload_n 0, 1) := by decide +kernel
theorem dX11_worstOf_26 : decode cX11_worstOf 26 = .ok (.getfield 12, 3) := by decide +kernel
theorem dX11_worstOf_29 : decode cX11_worstOf 29 = .ok (.invokevirtual 345, 3) := by decide +kernel
theorem dX11_worstOf_32 : decode cX11_worstOf 32 = .ok (.aload_n 0, 1) := by decide +kernel
theorem dX11_worstOf_33 : decode cX11_worstOf 33 = .ok (.getfield 18, 3) := by decide +kernel
theorem dX11_worstOf_36 : decode cX11_worstOf 36 = .ok (.aload_n 0, 1) := by decide +kernel
theorem dX11_worstOf_37 : decode cX11_worstOf 37 = .ok (.getfield 45, 3) := by decide +kernel
theorem dX11_worstOf_40 : decode cX11_worstOf 40 = .ok (.iload 5, 2) := by decide +kernel
theorem dX11_worstOf_42 : decode cX11_worstOf 42 = .ok (.iaload, 1) := by decide +kernel
theorem dX11_worstOf_43 : decode cX11_worstOf 43 = .ok (.aload_n 0, 1) := by decide +kernel
theorem dX11_worstOf_44 : decode cX11_worstOf 44 = .ok (.getfield 48, 3) := by decide +kernel
theorem dX11_worstOf_47 : decode cX11_worstOf 47 = .ok (.iload 5, 2) := by decide +kernel
theorem dX11_worstOf_49 : decode cX11_worstOf 49 = .ok (.iaload, 1) := by decide +kernel
theorem dX11_worstOf_50 : decode cX11_worstOf 50 = .ok (.invokevirtual 383, 3) := by decide +kernel
theorem dX11_worstOf_53 : decode cX11_worstOf 53 = .ok (.iconst 0, 1) := by decide +kernel
theorem dX11_worstOf_54 : decode cX11_worstOf 54 = .ok (.istore 6, 2) := by decide +kernel
theorem dX11_worstOf_56 : decode cX11_worstOf 56 = .ok (.iload 6, 2) := by decide +kernel
theorem dX11_worstOf_58 : decode cX11_worstOf 58 = .ok (.aload_n 0, 1) := by decide +kernel
theorem dX11_worstOf_59 : decode cX11_worstOf 59 = .ok (.getfield 309, 3) := by decide +kernel
theorem dX11_worstOf_62 : decode cX11_worstOf 62 = .ok (.if_icmp .ge 30, 3) := by decide +kernel
theorem dX11_worstOf_92 : decode cX11_worstOf 92 = .ok (.iconst 0, 1) := by decide +kernel
theorem dX11_worstOf_93 : decode cX11_worstOf 93 = .ok (.istore 6, 2) := by decide +kernel
theorem dX11_worstOf_95 : decode cX11_worstOf 95 = .ok (.iload 6, 2) := by decide +kernel
theorem dX11_worstOf_97 : decode cX11_worstOf 97 = .ok (.iload_n 2, 1) := by decide +kernel
theorem dX11_worstOf_98 : decode cX11_worstOf 98 = .ok (.if_icmp .ge 27, 3) := by decide +kernel
theorem dX11_worstOf_125 : decode cX11_worstOf 125 = .ok (.iload 4, 2) := by decide +kernel
theorem dX11_worstOf_127 : decode cX11_worstOf 127 = .ok (.aload_n 0, 1) := by decide +kernel
theorem dX11_worstOf_128 : decode cX11_worstOf 128 = .ok (.getfield 18, 3) := by decide +kernel
theorem dX11_worstOf_131 : decode cX11_worstOf 131 = .ok (.getfield 389, 3) := by decide +kernel
theorem dX11_worstOf_134 : decode cX11_worstOf 134 = .ok (.invokestatic 392, 3) := by decide +kernel
theorem dX11_worstOf_137 : decode cX11_worstOf 137 = .ok (.istore 4, 2) := by decide +kernel
theorem dX11_worstOf_139 : decode cX11_worstOf 139 = .ok (.iinc 5 1, 3) := by decide +kernel
theorem dX11_worstOf_142 : decode cX11_worstOf 142 = .ok (.goto (-136), 3) := by decide +kernel
theorem dX11_worstOf_101 : decode cX11_worstOf 101 = .ok (.aload_n 0, 1) := by decide +kernel
theorem dX11_worstOf_102 : decode cX11_worstOf 102 = .ok (.getfield 18, 3) := by decide +kernel
theorem dX11_worstOf_105 : decode cX11_worstOf 105 = .ok (.getfield 389, 3) := by decide +kernel
theorem dX11_worstOf_108 : decode cX11_worstOf 108 = .ok (.iload_n 3, 1) := by decide +kernel
theorem dX11_worstOf_109 : decode cX11_worstOf 109 = .ok (.if_icmp .ge 16, 3) := by decide +kernel
theorem dX11_worstOf_112 : decode cX11_worstOf 112 = .ok (.aload_n 0, 1) := by decide +kernel
theorem dX11_worstOf_113 : decode cX11_worstOf 113 = .ok (.getfield 18, 3) := by decide +kernel
theorem dX11_worstOf_116 : decode cX11_worstOf 116 = .ok (.invokevirtual 276, 3) := by decide +kernel
theorem dX11_worstOf_119 : decode cX11_worstOf 119 = .ok (.iinc 6 1, 3) := by decide +kernel
theorem dX11_worstOf_122 : decode cX11_worstOf 122 = .ok (.goto (-27), 3) := by decide +kernel
theorem dX11_worstOf_65 : decode cX11_worstOf 65 = .ok (.aload_n 0, 1) := by decide +kernel
theorem dX11_worstOf_66 : decode cX11_worstOf 66 = .ok (.getfield 18, 3) := by decide +kernel
theorem dX11_worstOf_69 : decode cX11_worstOf 69 = .ok (.getfield 386, 3) := by decide +kernel
theorem dX11_worstOf_72 : decode cX11_worstOf 72 = .ok (.aload_n 0, 1) := by decide +kernel
theorem dX11_worstOf_73 : decode cX11_worstOf 73 = .ok (.getfield 41, 3) := by decide +kernel
theorem dX11_worstOf_76 : decode cX11_worstOf 76 = .ok (.iload 6, 2) := by decide +kernel
theorem dX11_worstOf_78 : decode cX11_worstOf 78 = .ok (.iaload, 1) := by decide +kernel
theorem dX11_worstOf_79 : decode cX11_worstOf 79 = .ok (.iload_n 1, 1) := by decide +kernel
theorem dX11_worstOf_80 : decode cX11_worstOf 80 = .ok (.iload 6, 2) := by decide +kernel
theorem dX11_worstOf_82 : decode cX11_worstOf 82 = .ok (.ishr, 1) := by decide +kernel
theorem dX11_worstOf_83 : decode cX11_worstOf 83 = .ok (.iconst 1, 1) := by decide +kernel
theorem dX11_worstOf_84 : decode cX11_worstOf 84 = .ok (.iand, 1) := by decide +kernel
theorem dX11_worstOf_85 : decode cX11_worstOf 85 = .ok (.iastore, 1) := by decide +kernel
theorem dX11_worstOf_86 : decode cX11_worstOf 86 = .ok (.iinc 6 1, 3) := by decide +kernel
theorem dX11_worstOf_89 : decode cX11_worstOf 89 = .ok (.goto (-33), 3) := by decide +kernel
theorem dX11_choose_78 : decode cX11_choose 78 = .ok (.istore 7, 2) := by decide +kernel
theorem dX11_choose_80 : decode cX11_choose 80 = .ok (.iload 7, 2) := by decide +kernel
theorem dX11_choose_82 : decode cX11_choose 82 = .ok (.iload_n 2, 1) := by decide +kernel
theorem dX11_choose_83 : decode cX11_choose 83 = .ok (.if_icmp .ge 9, 3) := by decide +kernel
theorem dX11_choose_86 : decode cX11_choose 86 = .ok (.iload 7, 2) := by decide +kernel
theorem dX11_choose_88 : decode cX11_choose 88 = .ok (.istore_n 2, 1) := by decide +kernel
theorem dX11_choose_89 : decode cX11_choose 89 = .ok (.iload 6, 2) := by decide +kernel
theorem dX11_choose_91 : decode cX11_choose 91 = .ok (.istore_n 3, 1) := by decide +kernel
theorem dX11_choose_59 : decode cX11_choose 59 = .ok (.goto 33, 3) := by decide +kernel
theorem dX11_choose_8 : decode cX11_choose 8 = .ok (.iconst (-1), 1) := by decide +kernel
theorem dX11_choose_9 : decode cX11_choose 9 = .ok (.ireturn, 1) := by decide +kernel
theorem dX11_chosen_0 : decode cX11_chosen 0 = .ok (.iload_n 1, 1) := by decide +kernel
theorem dX11_chosen_1 : decode cX11_chosen 1 = .ok (.iconst 0, 1) := by decide +kernel
theorem dX11_chosen_2 : decode cX11_chosen 2 = .ok (.aload_n 0, 1) := by decide +kernel
theorem dX11_chosen_3 : decode cX11_chosen 3 = .ok (.getfield 329, 3) := by decide +kernel
theorem dX11_chosen_6 : decode cX11_chosen 6 = .ok (.iconst 1, 1) := by decide +kernel
theorem dX11_chosen_7 : decode cX11_chosen 7 = .ok (.isub, 1) := by decide +kernel
theorem dX11_chosen_8 : decode cX11_chosen 8 = .ok (.invokestatic 54, 3) := by decide +kernel
theorem dX11_chosen_11 : decode cX11_chosen 11 = .ok (.ifCond .eq 12, 3) := by decide +kernel
theorem dX11_chosen_24 : decode cX11_chosen 24 = .ok (.ireturn, 1) := by decide +kernel
theorem dX11_chosen_23 : decode cX11_chosen 23 = .ok (.iconst (-1), 1) := by decide +kernel
theorem dX11_chosen_14 : decode cX11_chosen 14 = .ok (.aload_n 0, 1) := by decide +kernel
theorem dX11_chosen_15 : decode cX11_chosen 15 = .ok (.getfield 51, 3) := by decide +kernel
theorem dX11_chosen_18 : decode cX11_chosen 18 = .ok (.iload_n 1, 1) := by decide +kernel
theorem dX11_chosen_19 : decode cX11_chosen 19 = .ok (.iaload, 1) := by decide +kernel
theorem dX11_chosen_20 : decode cX11_chosen 20 = .ok (.goto 4, 3) := by decide +kernel
theorem dX11_clear_0 : decode cX11_clear 0 = .ok (.aload_n 0, 1) := by decide +kernel
theorem dX11_clear_1 : decode cX11_clear 1 = .ok (.getfield 309, 3) := by decide +kernel
theorem dX11_clear_4 : decode cX11_clear 4 = .ok (.istore_n 1, 1) := by decide +kernel
theorem dX11_clear_5 : decode cX11_clear 5 = .ok (.aload_n 0, 1) := by decide +kernel
theorem dX11_clear_6 : decode cX11_clear 6 = .ok (.iconst 0, 1) := by decide +kernel
theorem dX11_clear_7 : decode cX11_clear 7 = .ok (.putfield 309, 3) := by decide +kernel
theorem dX11_clear_10 : decode cX11_clear 10 = .ok (.aload_n 0, 1) := by decide +kernel
theorem dX11_clear_11 : decode cX11_clear 11 = .ok (.iconst 0, 1) := by decide +kernel
theorem dX11_clear_12 : decode cX11_clear 12 = .ok (.putfield 312, 3) := by decide +kernel
theorem dX11_clear_15 : decode cX11_clear 15 = .ok (.iload_n 1, 1) := by decide +kernel
theorem dX11_clear_16 : decode cX11_clear 16 = .ok (.ireturn, 1) := by decide +kernel
theorem dX11_coin_0 : decode cX11_coin 0 = .ok (.aload_n 0, 1) := by decide +kernel
theorem dX11_coin_1 : decode cX11_coin 1 = .ok (.getfield 12, 3) := by decide +kernel
theorem dX11_coin_4 : decode cX11_coin 4 = .ok (.getfield 63, 3) := by decide +kernel
theorem dX11_coin_7 : decode cX11_coin 7 = .ok (.astore_n 3, 1) := by decide +kernel
theorem dX11_coin_8 : decode cX11_coin 8 = .ok (.iload_n 2, 1) := by decide +kernel
theorem dX11_coin_9 : decode cX11_coin 9 = .ok (.iconst 0, 1) := by decide +kernel
theorem dX11_coin_10 : decode cX11_coin 10 = .ok (.ldc 58, 2) := by decide +kernel
theorem dX11_coin_12 : decode cX11_coin 12 = .ok (.invokestatic 54, 3) := by decide +kernel
theorem dX11_coin_15 : decode cX11_coin 15 = .ok (.ifCond .ne 9, 3) := by decide +kernel
theorem dX11_coin_24 : decode cX11_coin 24 = .ok (.aload_n 3, 1) := by decide +kernel
theorem dX11_coin_25 : decode cX11_coin 25 = .ok (.iload_n 1, 1) := by decide +kernel
theorem dX11_coin_26 : decode cX11_coin 26 = .ok (.invokevirtual 80, 3) := by decide +kernel
theorem dX11_coin_29 : decode cX11_coin 29 = .ok (.ifCond .ne 10, 3) := by decide +kernel
theorem dX11_coin_39 : decode cX11_coin 39 = .ok (.aload_n 3, 1) := by decide +kernel
theorem dX11_coin_40 : decode cX11_coin 40 = .ok (.iload_n 1, 1) := by decide +kernel
theorem dX11_coin_41 : decode cX11_coin 41 = .ok (.iload_n 2, 1) := by decide +kernel
theorem dX11_coin_42 : decode cX11_coin 42 = .ok (.invokevirtual 90, 3) := by decide +kernel
theorem dX11_coin_45 : decode cX11_coin 45 = .ok (.aload_n 0, 1) := by decide +kernel
theorem dX11_coin_46 : decode cX11_coin 46 = .ok (.aload_n 3, 1) := by decide +kernel
theorem dX11_coin_47 : decode cX11_coin 47 = .ok (.getfield 94, 3) := by decide +kernel
theorem dX11_coin_50 : decode cX11_coin 50 = .ok (.iload_n 1, 1) := by decide +kernel
theorem dX11_coin_51 : decode cX11_coin 51 = .ok (.iaload, 1) := by decide +kernel
theorem dX11_coin_52 : decode cX11_coin 52 = .ok (.invokevirtual 77, 3) := by decide +kernel
theorem dX11_coin_55 : decode cX11_coin 55 = .ok (.ireturn, 1) := by decide +kernel
theorem dX11_coin_32 : decode cX11_coin 32 = .ok (.aload_n 0, 1) := by decide +kernel
theorem dX11_coin_33 : decode cX11_coin 33 = .ok (.bipush (-2), 2) := by decide +kernel
theorem dX11_coin_35 : decode cX11_coin 35 = .ok (.invokevirtual 59, 3) := by decide +kernel
theorem dX11_coin_38 : decode cX11_coin 38 = .ok (.ireturn, 1) := by decide +kernel
theorem dX11_coin_18 : decode cX11_coin 18 = .ok (.aload_n 0, 1) := by decide +kernel
theorem dX11_coin_19 : decode cX11_coin 19 = .ok (.iconst (-1), 1) := by decide +kernel
theorem dX11_coin_20 : decode cX11_coin 20 = .ok (.invokevirtual 59, 3) := by decide +kernel
theorem dX11_coin_23 : decode cX11_coin 23 = .ok (.ireturn, 1) := by decide +kernel
theorem dX11_count_0 : decode cX11_count 0 = .ok (.iload_n 1, 1) := by decide +kernel
theorem dX11_count_1 : decode cX11_count 1 = .ok (.tableswitch 153 0 9 #[55, 63, 74, 85, 96, 107, 118, 129, 140, 145], 55) := by decide +kernel
theorem dX11_count_56 : decode cX11_count 56 = .ok (.aload_n 0, 1) := by decide +kernel
theorem dX11_count_57 : decode cX11_count 57 = .ok (.getfield 12, 3) := by decide +kernel
theorem dX11_count_60 : decode cX11_count 60 = .ok (.getfield 255, 3) := by decide +kernel
theorem dX11_count_63 : decode cX11_count 63 = .ok (.ireturn, 1) := by decide +kernel
theorem dX11_count_64 : decode cX11_count 64 = .ok (.aload_n 0, 1) := by decide +kernel
theorem dX11_count_65 : decode cX11_count 65 = .ok (.getfield 12, 3) := by decide +kernel
theorem dX11_count_68 : decode cX11_count 68 = .ok (.getfield 63, 3) := by decide +kernel
theorem dX11_count_71 : decode cX11_count 71 = .ok (.getfield 67, 3) := by decide +kernel
theorem dX11_count_74 : decode cX11_count 74 = .ok (.ireturn, 1) := by decide +kernel
theorem dX11_count_75 : decode cX11_count 75 = .ok (.aload_n 0, 1) := by decide +kernel
theorem dX11_count_76 : decode cX11_count 76 = .ok (.getfield 12, 3) := by decide +kernel
theorem dX11_count_79 : decode cX11_count 79 = .ok (.getfield 114, 3) := by decide +kernel
theorem dX11_count_82 : decode cX11_count 82 = .ok (.getfield 118, 3) := by decide +kernel
theorem dX11_count_85 : decode cX11_count 85 = .ok (.ireturn, 1) := by decide +kernel
theorem dX11_count_86 : decode cX11_count 86 = .ok (.aload_n 0, 1) := by decide +kernel
theorem dX11_count_87 : decode cX11_count 87 = .ok (.getfield 12, 3) := by decide +kernel
theorem dX11_count_90 : decode cX11_count 90 = .ok (.getfield 114, 3) := by decide +kernel
theorem dX11_count_93 : decode cX11_count 93 = .ok (.getfield 130, 3) := by decide +kernel
theorem dX11_count_96 : decode cX11_count 96 = .ok (.ireturn, 1) := by decide +kernel
theorem dX11_count_97 : decode cX11_count 97 = .ok (.aload_n 0, 1) := by decide +kernel
theorem dX11_count_98 : decode cX11_count 98 = .ok (.getfield 12, 3) := by decide +kernel
theorem dX11_count_101 : decode cX11_count 101 = .ok (.getfield 219, 3) := by decide +kernel
theorem dX11_count_104 : decode cX11_count 104 = .ok (.getfield 223, 3) := by decide +kernel
theorem dX11_count_107 : decode cX11_count 107 = .ok (.ireturn, 1) := by decide +kernel
theorem dX11_count_108 : decode cX11_count 108 = .ok (.aload_n 0, 1) := by decide +kernel
theorem dX11_count_109 : decode cX11_count 109 = .ok (.getfield 12, 3) := by decide +kernel
theorem dX11_count_112 : decode cX11_count 112 = .ok (.getfield 170, 3) := by decide +kernel
theorem dX11_count_115 : decode cX11_count 115 = .ok (.getfield 251, 3) := by decide +kernel
theorem dX11_count_118 : decode cX11_count 118 = .ok (.ireturn, 1) := by decide +kernel
theorem dX11_count_119 : decode cX11_count 119 = .ok (.aload_n 0, 1) := by decide +kernel
theorem dX11_count_120 : decode cX11_count 120 = .ok (.getfield 12, 3) := by decide +kernel
theorem dX11_count_123 : decode cX11_count 123 = .ok (.getfield 98, 3) := by decide +kernel
theorem dX11_count_126 : decode cX11_count 126 = .ok (.getfield 288, 3) := by decide +kernel
theorem dX11_count_129 : decode cX11_count 129 = .ok (.ireturn, 1) := by decide +kernel
theorem dX11_count_130 : decode cX11_count 130 = .ok (.aload_n 0, 1) := by decide +kernel
theorem dX11_count_131 : decode cX11_count 131 = .ok (.getfield 12, 3) := by decide +kernel
theorem dX11_count_134 : decode cX11_count 134 = .ok (.getfield 98, 3) := by decide +kernel
theorem dX11_count_137 : decode cX11_count 137 = .ok (.getfield 297, 3) := by decide +kernel
theorem dX11_count_140 : decode cX11_count 140 = .ok (.ireturn, 1) := by decide +kernel
theorem dX11_count_141 : decode cX11_count 141 = .ok (.aload_n 0, 1) := by decide +kernel
theorem dX11_count_142 : decode cX11_count 142 = .ok (.getfield 309, 3) := by decide +kernel
theorem dX11_count_145 : decode cX11_count 145 = .ok (.ireturn, 1) := by decide +kernel
theorem dX11_count_146 : decode cX11_count 146 = .ok (.aload_n 0, 1) := by decide +kernel
theorem dX11_count_147 : decode cX11_count 147 = .ok (.getfield 30, 3) := by decide +kernel
theorem dX11_count_150 : decode cX11_count 150 = .ok (.getfield 209, 3) := by decide +kernel
theorem dX11_count_153 : decode cX11_count 153 = .ok (.ireturn, 1) := by decide +kernel
theorem dX11_count_154 : decode cX11_count 154 = .ok (.iconst (-1), 1) := by decide +kernel
theorem dX11_count_155 : decode cX11_count 155 = .ok (.ireturn, 1) := by decide +kernel
theorem dX11_crop_0 : decode cX11_crop 0 = .ok (.aload_n 0, 1) := by decide +kernel
theorem dX11_crop_1 : decode cX11_crop 1 = .ok (.getfield 12, 3) := by decide +kernel
theorem dX11_crop_4 : decode cX11_crop 4 = .ok (.getfield 114, 3) := by decide +kernel
theorem dX11_crop_7 : decode cX11_crop 7 = .ok (.iload_n 1, 1) := by decide +kernel
theorem dX11_crop_8 : decode cX11_crop 8 = .ok (.invokevirtual 150, 3) := by decide +kernel
theorem dX11_crop_11 : decode cX11_crop 11 = .ok (.ifCond .eq 10, 3) := by decide +kernel
theorem dX11_crop_21 : decode cX11_crop 21 = .ok (.iconst (-1), 1) := by decide +kernel
theorem dX11_crop_22 : decode cX11_crop 22 = .ok (.ireturn, 1) := by decide +kernel
theorem dX11_crop_14 : decode cX11_crop 14 = .ok (.iload_n 2, 1) := by decide +kernel
theorem dX11_crop_15 : decode cX11_crop 15 = .ok (.invokestatic 191, 3) := by decide +kernel
theorem dX11_isWeek_0 : decode cX11_isWeek 0 = .ok (.iload_n 0, 1) := by decide +kernel
theorem dX11_isWeek_1 : decode cX11_isWeek 1 = .ok (.ifCond .lt 14, 3) := by decide +kernel
theorem dX11_isWeek_15 : decode cX11_isWeek 15 = .ok (.iconst 0, 1) := by decide +kernel
theorem dX11_isWeek_16 : decode cX11_isWeek 16 = .ok (.ireturn, 1) := by decide +kernel
theorem dX11_isWeek_4 : decode cX11_isWeek 4 = .ok (.iload_n 0, 1) := by decide +kernel
theorem dX11_isWeek_5 : decode cX11_isWeek 5 = .ok (.sipush 399, 3) := by decide +kernel
theorem dX11_isWeek_8 : decode cX11_isWeek 8 = .ok (.if_icmp .gt 7, 3) := by decide +kernel
theorem dX11_isWeek_11 : decode cX11_isWeek 11 = .ok (.iconst 1, 1) := by decide +kernel
theorem dX11_isWeek_12 : decode cX11_isWeek 12 = .ok (.goto 4, 3) := by decide +kernel
theorem dX11_crop_18 : decode cX11_crop 18 = .ok (.ifCond .ne 5, 3) := by decide +kernel
theorem dX11_crop_23 : decode cX11_crop 23 = .ok (.aload_n 0, 1) := by decide +kernel
theorem dX11_crop_24 : decode cX11_crop 24 = .ok (.getfield 12, 3) := by decide +kernel
theorem dX11_crop_27 : decode cX11_crop 27 = .ok (.getfield 194, 3) := by decide +kernel
theorem dX11_crop_30 : decode cX11_crop 30 = .ok (.iload_n 1, 1) := by decide +kernel
theorem dX11_crop_31 : decode cX11_crop 31 = .ok (.iload_n 2, 1) := by decide +kernel
theorem dX11_crop_32 : decode cX11_crop 32 = .ok (.invokevirtual 212, 3) := by decide +kernel
theorem dX11_crop_35 : decode cX11_crop 35 = .ok (.ireturn, 1) := by decide +kernel
theorem dX11_crops_0 : decode cX11_crops 0 = .ok (.iload_n 1, 1) := by decide +kernel
theorem dX11_crops_1 : decode cX11_crops 1 = .ok (.iconst 0, 1) := by decide +kernel
theorem dX11_crops_2 : decode cX11_crops 2 = .ok (.sipush 10000, 3) := by decide +kernel
theorem dX11_crops_5 : decode cX11_crops 5 = .ok (.invokestatic 54, 3) := by decide +kernel
theorem dX11_crops_8 : decode cX11_crops 8 = .ok (.ifCond .eq 14, 3) := by decide +kernel
theorem dX11_crops_22 : decode cX11_crops 22 = .ok (.aload_n 0, 1) := by decide +kernel
theorem dX11_crops_23 : decode cX11_crops 23 = .ok (.iconst (-1), 1) := by decide +kernel
theorem dX11_crops_24 : decode cX11_crops 24 = .ok (.invokevirtual 59, 3) := by decide +kernel
theorem dX11_crops_27 : decode cX11_crops 27 = .ok (.ireturn, 1) := by decide +kernel
theorem dX11_crops_11 : decode cX11_crops 11 = .ok (.iload_n 2, 1) := by decide +kernel
theorem dX11_crops_12 : decode cX11_crops 12 = .ok (.iconst 0, 1) := by decide +kernel
theorem dX11_crops_13 : decode cX11_crops 13 = .ok (.sipush 10000, 3) := by decide +kernel
theorem dX11_crops_16 : decode cX11_crops 16 = .ok (.invokestatic 54, 3) := by decide +kernel
theorem dX11_crops_19 : decode cX11_crops 19 = .ok (.ifCond .ne 9, 3) := by decide +kernel
theorem dX11_crops_28 : decode cX11_crops 28 = .ok (.aload_n 0, 1) := by decide +kernel
theorem dX11_crops_29 : decode cX11_crops 29 = .ok (.getfield 312, 3) := by decide +kernel
theorem dX11_crops_32 : decode cX11_crops 32 = .ok (.iconst 3, 1) := by decide +kernel
theorem dX11_crops_33 : decode cX11_crops 33 = .ok (.if_icmp .lt 10, 3) := by decide +kernel
theorem dX11_crops_43 : decode cX11_crops 43 = .ok (.aload_n 0, 1) := by decide +kernel
theorem dX11_crops_44 : decode cX11_crops 44 = .ok (.getfield 45, 3) := by decide +kernel
theorem dX11_crops_47 : decode cX11_crops 47 = .ok (.aload_n 0, 1) := by decide +kernel
theorem dX11_crops_48 : decode cX11_crops 48 = .ok (.getfield 312, 3) := by decide +kernel
theorem dX11_crops_51 : decode cX11_crops 51 = .ok (.iload_n 1, 1) := by decide +kernel
theorem dX11_crops_52 : decode cX11_crops 52 = .ok (.iastore, 1) := by decide +kernel
theorem dX11_crops_53 : decode cX11_crops 53 = .ok (.aload_n 0, 1) := by decide +kernel
theorem dX11_crops_54 : decode cX11_crops 54 = .ok (.getfield 48, 3) := by decide +kernel
theorem dX11_crops_57 : decode cX11_crops 57 = .ok (.aload_n 0, 1) := by decide +kernel
theorem dX11_crops_58 : decode cX11_crops 58 = .ok (.getfield 312, 3) := by decide +kernel
theorem dX11_crops_61 : decode cX11_crops 61 = .ok (.iload_n 2, 1) := by decide +kernel
theorem dX11_crops_62 : decode cX11_crops 62 = .ok (.iastore, 1) := by decide +kernel
theorem dX11_crops_63 : decode cX11_crops 63 = .ok (.aload_n 0, 1) := by decide +kernel
theorem dX11_crops_64 : decode cX11_crops 64 = .ok (.dup, 1) := by decide +kernel
theorem dX11_crops_65 : decode cX11_crops 65 = .ok (.getfield 312, 3) := by decide +kernel
theorem dX11_crops_68 : decode cX11_crops 68 = .ok (.iconst 1, 1) := by decide +kernel
theorem dX11_crops_69 : decode cX11_crops 69 = .ok (.iadd, 1) := by decide +kernel
theorem dX11_crops_70 : decode cX11_crops 70 = .ok (.putfield 312, 3) := by decide +kernel
theorem dX11_crops_73 : decode cX11_crops 73 = .ok (.aload_n 0, 1) := by decide +kernel
theorem dX11_crops_74 : decode cX11_crops 74 = .ok (.aload_n 0, 1) := by decide +kernel
theorem dX11_crops_75 : decode cX11_crops 75 = .ok (.getfield 312, 3) := by decide +kernel
theorem dX11_crops_78 : decode cX11_crops 78 = .ok (.invokevirtual 77, 3) := by decide +kernel
theorem dX11_crops_81 : decode cX11_crops 81 = .ok (.ireturn, 1) := by decide +kernel
theorem dX11_crops_36 : decode cX11_crops 36 = .ok (.aload_n 0, 1) := by decide +kernel
theorem dX11_crops_37 : decode cX11_crops 37 = .ok (.bipush (-5), 2) := by decide +kernel
theorem dX11_crops_39 : decode cX11_crops 39 = .ok (.invokevirtual 59, 3) := by decide +kernel
theorem dX11_crops_42 : decode cX11_crops 42 = .ok (.ireturn, 1) := by decide +kernel
theorem dX11_deal_0 : decode cX11_deal 0 = .ok (.aload_n 0, 1) := by decide +kernel
theorem dX11_deal_1 : decode cX11_deal 1 = .ok (.getfield 12, 3) := by decide +kernel
theorem dX11_deal_4 : decode cX11_deal 4 = .ok (.getfield 63, 3) := by decide +kernel
theorem dX11_deal_7 : decode cX11_deal 7 = .ok (.astore 4, 2) := by decide +kernel
theorem dX11_deal_9 : decode cX11_deal 9 = .ok (.aload_n 0, 1) := by decide +kernel
theorem dX11_deal_10 : decode cX11_deal 10 = .ok (.getfield 12, 3) := by decide +kernel
theorem dX11_deal_13 : decode cX11_deal 13 = .ok (.getfield 98, 3) := by decide +kernel
theorem dX11_deal_16 : decode cX11_deal 16 = .ok (.astore 5, 2) := by decide +kernel
theorem dX11_deal_18 : decode cX11_deal 18 = .ok (.iload_n 3, 1) := by decide +kernel
theorem dX11_deal_19 : decode cX11_deal 19 = .ok (.iconst 1, 1) := by decide +kernel
theorem dX11_deal_20 : decode cX11_deal 20 = .ok (.sipush 10000, 3) := by decide +kernel
theorem dX11_deal_23 : decode cX11_deal 23 = .ok (.invokestatic 54, 3) := by decide +kernel
theorem dX11_deal_26 : decode cX11_deal 26 = .ok (.ifCond .ne 9, 3) := by decide +kernel
theorem dX11_deal_35 : decode cX11_deal 35 = .ok (.aload 4, 2) := by decide +kernel
theorem dX11_deal_37 : decode cX11_deal 37 = .ok (.iload_n 1, 1) := by decide +kernel
theorem dX11_deal_38 : decode cX11_deal 38 = .ok (.invokevirtual 80, 3) := by decide +kernel
theorem dX11_deal_41 : decode cX11_deal 41 = .ok (.ifCond .eq 12, 3) := by decide +kernel
theorem dX11_deal_53 : decode cX11_deal 53 = .ok (.aload_n 0, 1) := by decide +kernel
theorem dX11_deal_54 : decode cX11_deal 54 = .ok (.bipush (-2), 2) := by decide +kernel
theorem dX11_deal_56 : decode cX11_deal 56 = .ok (.invokevirtual 59, 3) := by decide +kernel
theorem dX11_deal_59 : decode cX11_deal 59 = .ok (.ireturn, 1) := by decide +kernel
theorem dX11_deal_44 : decode cX11_deal 44 = .ok (.aload 4, 2) := by decide +kernel
theorem dX11_deal_46 : decode cX11_deal 46 = .ok (.iload_n 2, 1) := by decide +kernel
theorem dX11_deal_47 : decode cX11_deal 47 = .ok (.invokevirtual 80, 3) := by decide +kernel
theorem dX11_deal_50 : decode cX11_deal 50 = .ok (.ifCond .ne 10, 3) := by decide +kernel
theorem dX11_deal_60 : decode cX11_deal 60 = .ok (.iload_n 1, 1) := by decide +kernel
theorem dX11_deal_61 : decode cX11_deal 61 = .ok (.iload_n 2, 1) := by decide +kernel
theorem dX11_deal_62 : decode cX11_deal 62 = .ok (.if_icmp .eq 58, 3) := by decide +kernel
theorem dX11_deal_120 : decode cX11_deal 120 = .ok (.aload_n 0, 1) := by decide +kernel
theorem dX11_deal_121 : decode cX11_deal 121 = .ok (.bipush (-3), 2) := by decide +kernel
theorem dX11_deal_123 : decode cX11_deal 123 = .ok (.invokevirtual 59, 3) := by decide +kernel
theorem dX11_deal_126 : decode cX11_deal 126 = .ok (.ireturn, 1) := by decide +kernel
theorem dX11_deal_65 : decode cX11_deal 65 = .ok (.aload 4, 2) := by decide +kernel
theorem dX11_deal_67 : decode cX11_deal 67 = .ok (.getfield 94, 3) := by decide +kernel
theorem dX11_deal_70 : decode cX11_deal 70 = .ok (.iload_n 2, 1) := by decide +kernel
theorem dX11_deal_71 : decode cX11_deal 71 = .ok (.iaload, 1) := by decide +kernel
theorem dX11_deal_72 : decode cX11_deal 72 = .ok (.iload_n 3, 1) := by decide +kernel
theorem dX11_deal_73 : decode cX11_deal 73 = .ok (.if_icmp .lt 47, 3) := by decide +kernel
theorem dX11_deal_76 : decode cX11_deal 76 = .ok (.aload 4, 2) := by decide +kernel
theorem dX11_deal_78 : decode cX11_deal 78 = .ok (.iload_n 1, 1) := by decide +kernel
theorem dX11_deal_79 : decode cX11_deal 79 = .ok (.invokevirtual 279, 3) := by decide +kernel
theorem dX11_deal_82 : decode cX11_deal 82 = .ok (.ifCond .eq 38, 3) := by decide +kernel
theorem dX11_deal_85 : decode cX11_deal 85 = .ok (.aload 4, 2) := by decide +kernel
theorem dX11_deal_87 : decode cX11_deal 87 = .ok (.iload_n 2, 1) := by decide +kernel
theorem dX11_deal_88 : decode cX11_deal 88 = .ok (.invokevirtual 279, 3) := by decide +kernel
theorem dX11_deal_91 : decode cX11_deal 91 = .ok (.ifCond .eq 29, 3) := by decide +kernel
theorem dX11_deal_94 : decode cX11_deal 94 = .ok (.aload 4, 2) := by decide +kernel
theorem dX11_deal_96 : decode cX11_deal 96 = .ok (.getfield 141, 3) := by decide +kernel
theorem dX11_deal_99 : decode cX11_deal 99 = .ok (.iload_n 2, 1) := by decide +kernel
theorem dX11_deal_100 : decode cX11_deal 100 = .ok (.iaload, 1) := by decide +kernel
theorem dX11_deal_101 : decode cX11_deal 101 = .ok (.iconst 1, 1) := by decide +kernel
theorem dX11_deal_102 : decode cX11_deal 102 = .ok (.if_icmp .ne 25, 3) := by decide +kernel
theorem dX11_deal_127 : decode cX11_deal 127 = .ok (.aload 5, 2) := by decide +kernel
theorem dX11_deal_129 : decode cX11_deal 129 = .ok (.getfield 288, 3) := by decide +kernel
theorem dX11_deal_132 : decode cX11_deal 132 = .ok (.sipush 200, 3) := by decide +kernel
theorem dX11_deal_135 : decode cX11_deal 135 = .ok (.if_icmp .lt 10, 3) := by decide +kernel
theorem dX11_deal_145 : decode cX11_deal 145 = .ok (.aload 4, 2) := by decide +kernel
theorem dX11_deal_147 : decode cX11_deal 147 = .ok (.getfield 94, 3) := by decide +kernel
theorem dX11_deal_150 : decode cX11_deal 150 = .ok (.iload_n 2, 1) := by decide +kernel
theorem dX11_deal_151 : decode cX11_deal 151 = .ok (.dup2, 1) := by decide +kernel
theorem dX11_deal_152 : decode cX11_deal 152 = .ok (.iaload, 1) := by decide +kernel
theorem dX11_deal_153 : decode cX11_deal 153 = .ok (.iload_n 3, 1) := by decide +kernel
theorem dX11_deal_154 : decode cX11_deal 154 = .ok (.isub, 1) := by decide +kernel
theorem dX11_deal_155 : decode cX11_deal 155 = .ok (.iastore, 1) := by decide +kernel
theorem dX11_deal_156 : decode cX11_deal 156 = .ok (.aload 4, 2) := by decide +kernel
theorem dX11_deal_158 : decode cX11_deal 158 = .ok (.iload_n 1, 1) := by decide +kernel
theorem dX11_deal_159 : decode cX11_deal 159 = .ok (.iload_n 3, 1) := by decide +kernel
theorem dX11_deal_160 : decode cX11_deal 160 = .ok (.invokevirtual 90, 3) := by decide +kernel
theorem dX11_deal_163 : decode cX11_deal 163 = .ok (.aload 5, 2) := by decide +kernel
theorem dX11_deal_165 : decode cX11_deal 165 = .ok (.dup, 1) := by decide +kernel
theorem dX11_deal_166 : decode cX11_deal 166 = .ok (.getfield 288, 3) := by decide +kernel
theorem dX11_deal_169 : decode cX11_deal 169 = .ok (.iconst 1, 1) := by decide +kernel
theorem dX11_deal_170 : decode cX11_deal 170 = .ok (.iadd, 1) := by decide +kernel
theorem dX11_deal_171 : decode cX11_deal 171 = .ok (.putfield 288, 3) := by decide +kernel
theorem dX11_deal_174 : decode cX11_deal 174 = .ok (.aload_n 0, 1) := by decide +kernel
theorem dX11_deal_175 : decode cX11_deal 175 = .ok (.aload 5, 2) := by decide +kernel
theorem dX11_deal_177 : decode cX11_deal 177 = .ok (.getfield 288, 3) := by decide +kernel
theorem dX11_deal_180 : decode cX11_deal 180 = .ok (.invokevirtual 77, 3) := by decide +kernel
theorem dX11_deal_183 : decode cX11_deal 183 = .ok (.ireturn, 1) := by decide +kernel
theorem dX11_deal_138 : decode cX11_deal 138 = .ok (.aload_n 0, 1) := by decide +kernel
theorem dX11_deal_139 : decode cX11_deal 139 = .ok (.bipush (-5), 2) := by decide +kernel
theorem dX11_deal_141 : decode cX11_deal 141 = .ok (.invokevirtual 59, 3) := by decide +kernel
theorem dX11_deal_144 : decode cX11_deal 144 = .ok (.ireturn, 1) := by decide +kernel
theorem dX11_deal_105 : decode cX11_deal 105 = .ok (.aload 4, 2) := by decide +kernel
theorem dX11_deal_107 : decode cX11_deal 107 = .ok (.iload_n 1, 1) := by decide +kernel
theorem dX11_deal_108 : decode cX11_deal 108 = .ok (.iload_n 2, 1) := by decide +kernel
theorem dX11_deal_109 : decode cX11_deal 109 = .ok (.aload 5, 2) := by decide +kernel
theorem dX11_deal_111 : decode cX11_deal 111 = .ok (.getfield 282, 3) := by decide +kernel
theorem dX11_deal_114 : decode cX11_deal 114 = .ok (.invokevirtual 285, 3) := by decide +kernel
theorem dX11_deal_117 : decode cX11_deal 117 = .ok (.ifCond .eq 10, 3) := by decide +kernel
theorem dX11_deal_29 : decode cX11_deal 29 = .ok (.aload_n 0, 1) := by decide +kernel
theorem dX11_deal_30 : decode cX11_deal 30 = .ok (.iconst (-1), 1) := by decide +kernel
theorem dX11_deal_31 : decode cX11_deal 31 = .ok (.invokevirtual 59, 3) := by decide +kernel
theorem dX11_deal_34 : decode cX11_deal 34 = .ok (.ireturn, 1) := by decide +kernel
theorem dX11_end_0 : decode cX11_end 0 = .ok (.iload_n 1, 1) := by decide +kernel
theorem dX11_end_1 : decode cX11_end 1 = .ok (.iconst 0, 1) := by decide +kernel
theorem dX11_end_2 : decode cX11_end 2 = .ok (.aload_n 0, 1) := by decide +kernel
theorem dX11_end_3 : decode cX11_end 3 = .ok (.getfield 30, 3) := by decide +kernel
theorem dX11_end_6 : decode cX11_end 6 = .ok (.getfield 209, 3) := by decide +kernel
theorem dX11_end_9 : decode cX11_end 9 = .ok (.invokestatic 54, 3) := by decide +kernel
theorem dX11_end_12 : decode cX11_end 12 = .ok (.ifCond .ne 5, 3) := by decide +kernel
theorem dX11_end_17 : decode cX11_end 17 = .ok (.aload_n 0, 1) := by decide +kernel
theorem dX11_end_18 : decode cX11_end 18 = .ok (.getfield 30, 3) := by decide +kernel
theorem dX11_end_21 : decode cX11_end 21 = .ok (.iload_n 1, 1) := by decide +kernel
theorem dX11_end_22 : decode cX11_end 22 = .ok (.putfield 209, 3) := by decide +kernel
theorem dX11_end_25 : decode cX11_end 25 = .ok (.iload_n 1, 1) := by decide +kernel
theorem dX11_end_26 : decode cX11_end 26 = .ok (.ireturn, 1) := by decide +kernel
theorem dX11_end_15 : decode cX11_end 15 = .ok (.iconst (-1), 1) := by decide +kernel
theorem dX11_end_16 : decode cX11_end 16 = .ok (.ireturn, 1) := by decide +kernel
theorem dX11_estate_0 : decode cX11_estate 0 = .ok (.iload_n 1, 1) := by decide +kernel
theorem dX11_estate_1 : decode cX11_estate 1 = .ok (.iconst 0, 1) := by decide +kernel
theorem dX11_estate_2 : decode cX11_estate 2 = .ok (.ldc 97, 2) := by decide +kernel
theorem dX11_estate_4 : decode cX11_estate 4 = .ok (.invokestatic 54, 3) := by decide +kernel
theorem dX11_estate_7 : decode cX11_estate 7 = .ok (.ifCond .eq 13, 3) := by decide +kernel
theorem dX11_estate_20 : decode cX11_estate 20 = .ok (.aload_n 0, 1) := by decide +kernel
theorem dX11_estate_21 : decode cX11_estate 21 = .ok (.iconst (-1), 1) := by decide +kernel
theorem dX11_estate_22 : decode cX11_estate 22 = .ok (.invokevirtual 59, 3) := by decide +kernel
theorem dX11_estate_25 : decode cX11_estate 25 = .ok (.ireturn, 1) := by decide +kernel
theorem dX11_estate_10 : decode cX11_estate 10 = .ok (.iload_n 2, 1) := by decide +kernel
theorem dX11_estate_11 : decode cX11_estate 11 = .ok (.iconst 0, 1) := by decide +kernel
theorem dX11_estate_12 : decode cX11_estate 12 = .ok (.ldc 58, 2) := by decide +kernel
theorem dX11_estate_14 : decode cX11_estate 14 = .ok (.invokestatic 54, 3) := by decide +kernel
theorem dX11_estate_17 : decode cX11_estate 17 = .ok (.ifCond .ne 9, 3) := by decide +kernel
theorem dX11_estate_26 : decode cX11_estate 26 = .ok (.aload_n 0, 1) := by decide +kernel
theorem dX11_estate_27 : decode cX11_estate 27 = .ok (.getfield 12, 3) := by decide +kernel
theorem dX11_estate_30 : decode cX11_estate 30 = .ok (.getfield 114, 3) := by decide +kernel
theorem dX11_estate_33 : decode cX11_estate 33 = .ok (.getfield 118, 3) := by decide +kernel
theorem dX11_estate_36 : decode cX11_estate 36 = .ok (.bipush 8, 2) := by decide +kernel
theorem dX11_estate_38 : decode cX11_estate 38 = .ok (.if_icmp .lt 10, 3) := by decide +kernel
theorem dX11_estate_48 : decode cX11_estate 48 = .ok (.aload_n 0, 1) := by decide +kernel
theorem dX11_estate_49 : decode cX11_estate 49 = .ok (.aload_n 0, 1) := by decide +kernel
theorem dX11_estate_50 : decode cX11_estate 50 = .ok (.getfield 12, 3) := by decide +kernel
theorem dX11_estate_53 : decode cX11_estate 53 = .ok (.getfield 114, 3) := by decide +kernel
theorem dX11_estate_56 : decode cX11_estate 56 = .ok (.iload_n 1, 1) := by decide +kernel
theorem dX11_estate_57 : decode cX11_estate 57 = .ok (.iload_n 2, 1) := by decide +kernel
theorem dX11_estate_58 : decode cX11_estate 58 = .ok (.invokevirtual 123, 3) := by decide +kernel
theorem dX11_estate_61 : decode cX11_estate 61 = .ok (.invokevirtual 77, 3) := by decide +kernel
theorem dX11_estate_64 : decode cX11_estate 64 = .ok (.ireturn, 1) := by decide +kernel
theorem dX11_estate_41 : decode cX11_estate 41 = .ok (.aload_n 0, 1) := by decide +kernel
theorem dX11_estate_42 : decode cX11_estate 42 = .ok (.bipush (-5), 2) := by decide +kernel
theorem dX11_estate_44 : decode cX11_estate 44 = .ok (.invokevirtual 59, 3) := by decide +kernel
theorem dX11_estate_47 : decode cX11_estate 47 = .ok (.ireturn, 1) := by decide +kernel
theorem dX11_fault_0 : decode cX11_fault 0 = .ok (.aload_n 0, 1) := by decide +kernel
theorem dX11_fault_1 : decode cX11_fault 1 = .ok (.getfield 37, 3) := by decide +kernel
theorem dX11_fault_4 : decode cX11_fault 4 = .ok (.getfield 233, 3) := by decide +kernel
theorem dX11_fault_7 : decode cX11_fault 7 = .ok (.ireturn, 1) := by decide +kernel
theorem dX11_feed_0 : decode cX11_feed 0 = .ok (.aload_n 0, 1) := by decide +kernel
theorem dX11_feed_1 : decode cX11_feed 1 = .ok (.getfield 30, 3) := by decide +kernel
theorem dX11_feed_4 : decode cX11_feed 4 = .ok (.getfield 209, 3) := by decide +kernel
theorem dX11_feed_7 : decode cX11_feed 7 = .ok (.bipush 20, 2) := by decide +kernel
theorem dX11_feed_9 : decode cX11_feed 9 = .ok (.iadd, 1) := by decide +kernel
theorem dX11_feed_10 : decode cX11_feed 10 = .ok (.sipush 400, 3) := by decide +kernel
theorem dX11_feed_13 : decode cX11_feed 13 = .ok (.if_icmp .le 5, 3) := by decide +kernel
theorem dX11_feed_18 : decode cX11_feed 18 = .ok (.aload_n 0, 1) := by decide +kernel
theorem dX11_feed_19 : decode cX11_feed 19 = .ok (.getfield 30, 3) := by decide +kernel
theorem dX11_feed_22 : decode cX11_feed 22 = .ok (.iload_n 1, 1) := by decide +kernel
theorem dX11_feed_23 : decode cX11_feed 23 = .ok (.invokevirtual 215, 3) := by decide +kernel
theorem dX8_append_0 : decode cX8_append 0 = .ok (.bipush 24, 2) := by decide +kernel
theorem dX8_append_2 : decode cX8_append 2 = .ok (.istore_n 2, 1) := by decide +kernel
theorem dX8_append_3 : decode cX8_append 3 = .ok (.iload_n 2, 1) := by decide +kernel
theorem dX8_append_4 : decode cX8_append 4 = .ok (.ifCond .lt 45, 3) := by decide +kernel
theorem dX8_append_49 : decode cX8_append 49 = .ok (.return_, 1) := by decide +kernel
theorem dX8_append_7 : decode cX8_append 7 = .ok (.aload_n 0, 1) := by decide +kernel
theorem dX8_append_8 : decode cX8_append 8 = .ok (.getfield 19, 3) := by decide +kernel
theorem dX8_append_11 : decode cX8_append 11 = .ok (.sipush 400, 3) := by decide +kernel
theorem dX8_append_14 : decode cX8_append 14 = .ok (.if_icmp .ge 35, 3) := by decide +kernel
theorem dX8_append_17 : decode cX8_append 17 = .ok (.aload_n 0, 1) := by decide +kernel
theorem dX8_append_18 : decode cX8_append 18 = .ok (.getfield 9, 3) := by decide +kernel
theorem dX8_append_21 : decode cX8_append 21 = .ok (.aload_n 0, 1) := by decide +kernel
theorem dX8_append_22 : decode cX8_append 22 = .ok (.getfield 19, 3) := by decide +kernel
theorem dX8_append_25 : decode cX8_append 25 = .ok (.iload_n 1, 1) := by decide +kernel
theorem dX8_append_26 : decode cX8_append 26 = .ok (.iload_n 2, 1) := by decide +kernel
theorem dX8_append_27 : decode cX8_append 27 = .ok (.iushr, 1) := by decide +kernel
theorem dX8_append_28 : decode cX8_append 28 = .ok (.sipush 255, 3) := by decide +kernel
theorem dX8_append_31 : decode cX8_append 31 = .ok (.iand, 1) := by decide +kernel
theorem dX8_append_32 : decode cX8_append 32 = .ok (.iastore, 1) := by decide +kernel
theorem dX8_append_33 : decode cX8_append 33 = .ok (.aload_n 0, 1) := by decide +kernel
theorem dX8_append_34 : decode cX8_append 34 = .ok (.dup, 1) := by decide +kernel
theorem dX8_append_35 : decode cX8_append 35 = .ok (.getfield 19, 3) := by decide +kernel
theorem dX8_append_38 : decode cX8_append 38 = .ok (.iconst 1, 1) := by decide +kernel
theorem dX8_append_39 : decode cX8_append 39 = .ok (.iadd, 1) := by decide +kernel
theorem dX8_append_40 : decode cX8_append 40 = .ok (.putfield 19, 3) := by decide +kernel
theorem dX8_append_43 : decode cX8_append 43 = .ok (.iinc 2 (-8), 3) := by decide +kernel
theorem dX8_append_46 : decode cX8_append 46 = .ok (.goto (-43), 3) := by decide +kernel
theorem dX11_feed_26 : decode cX11_feed 26 = .ok (.aload_n 0, 1) := by decide +kernel
theorem dX11_feed_27 : decode cX11_feed 27 = .ok (.getfield 30, 3) := by decide +kernel
theorem dX11_feed_30 : decode cX11_feed 30 = .ok (.iload_n 2, 1) := by decide +kernel
theorem dX11_feed_31 : decode cX11_feed 31 = .ok (.invokevirtual 215, 3) := by decide +kernel
theorem dX11_feed_34 : decode cX11_feed 34 = .ok (.aload_n 0, 1) := by decide +kernel
theorem dX11_feed_35 : decode cX11_feed 35 = .ok (.getfield 30, 3) := by decide +kernel
theorem dX11_feed_38 : decode cX11_feed 38 = .ok (.iload_n 3, 1) := by decide +kernel
theorem dX11_feed_39 : decode cX11_feed 39 = .ok (.invokevirtual 215, 3) := by decide +kernel
theorem dX11_feed_42 : decode cX11_feed 42 = .ok (.aload_n 0, 1) := by decide +kernel
theorem dX11_feed_43 : decode cX11_feed 43 = .ok (.getfield 30, 3) := by decide +kernel
theorem dX11_feed_46 : decode cX11_feed 46 = .ok (.iload 4, 2) := by decide +kernel
theorem dX11_feed_48 : decode cX11_feed 48 = .ok (.invokevirtual 215, 3) := by decide +kernel
theorem dX11_feed_51 : decode cX11_feed 51 = .ok (.aload_n 0, 1) := by decide +kernel
theorem dX11_feed_52 : decode cX11_feed 52 = .ok (.getfield 30, 3) := by decide +kernel
theorem dX11_feed_55 : decode cX11_feed 55 = .ok (.iload 5, 2) := by decide +kernel
theorem dX11_feed_57 : decode cX11_feed 57 = .ok (.invokevirtual 215, 3) := by decide +kernel
theorem dX11_feed_60 : decode cX11_feed 60 = .ok (.aload_n 0, 1) := by decide +kernel
theorem dX11_feed_61 : decode cX11_feed 61 = .ok (.getfield 30, 3) := by decide +kernel
theorem dX11_feed_64 : decode cX11_feed 64 = .ok (.getfield 209, 3) := by decide +kernel
theorem dX11_feed_67 : decode cX11_feed 67 = .ok (.ireturn, 1) := by decide +kernel
theorem dX11_feed_16 : decode cX11_feed 16 = .ok (.iconst (-1), 1) := by decide +kernel
theorem dX11_feed_17 : decode cX11_feed 17 = .ok (.ireturn, 1) := by decide +kernel
theorem dX11_field_0 : decode cX11_field 0 = .ok (.aload_n 0, 1) := by decide +kernel
theorem dX11_field_1 : decode cX11_field 1 = .ok (.getfield 12, 3) := by decide +kernel
theorem dX11_field_4 : decode cX11_field 4 = .ok (.getfield 63, 3) := by decide +kernel
theorem dX11_field_7 : decode cX11_field 7 = .ok (.astore 5, 2) := by decide +kernel
theorem dX11_field_9 : decode cX11_field 9 = .ok (.iload_n 2, 1) := by decide +kernel
theorem dX11_field_10 : decode cX11_field 10 = .ok (.iconst 1, 1) := by decide +kernel
theorem dX11_field_11 : decode cX11_field 11 = .ok (.sipush 1000, 3) := by decide +kernel
theorem dX11_field_14 : decode cX11_field 14 = .ok (.invokestatic 54, 3) := by decide +kernel
theorem dX11_field_17 : decode cX11_field 17 = .ok (.ifCond .eq 13, 3) := by decide +kernel
theorem dX11_field_30 : decode cX11_field 30 = .ok (.aload_n 0, 1) := by decide +kernel
theorem dX11_field_31 : decode cX11_field 31 = .ok (.iconst (-1), 1) := by decide +kernel
theorem dX11_field_32 : decode cX11_field 32 = .ok (.invokevirtual 59, 3) := by decide +kernel
theorem dX11_field_35 : decode cX11_field 35 = .ok (.ireturn, 1) := by decide +kernel
theorem dX11_field_20 : decode cX11_field 20 = .ok (.iload_n 3, 1) := by decide +kernel
theorem dX11_field_21 : decode cX11_field 21 = .ok (.iconst 0, 1) := by decide +kernel
theorem dX11_field_22 : decode cX11_field 22 = .ok (.ldc 126, 2) := by decide +kernel
theorem dX11_field_24 : decode cX11_field 24 = .ok (.invokestatic 54, 3) := by decide +kernel
theorem dX11_field_27 : decode cX11_field 27 = .ok (.ifCond .ne 9, 3) := by decide +kernel
theorem dX11_field_36 : decode cX11_field 36 = .ok (.aload_n 0, 1) := by decide +kernel
theorem dX11_field_37 : decode cX11_field 37 = .ok (.getfield 12, 3) := by decide +kernel
theorem dX11_field_40 : decode cX11_field 40 = .ok (.getfield 114, 3) := by decide +kernel
theorem dX11_field_43 : decode cX11_field 43 = .ok (.iload_n 1, 1) := by decide +kernel
theorem dX11_field_44 : decode cX11_field 44 = .ok (.invokevirtual 127, 3) := by decide +kernel
theorem dX11_field_47 : decode cX11_field 47 = .ok (.ifCond .eq 19, 3) := by decide +kernel
theorem dX11_field_66 : decode cX11_field 66 = .ok (.aload_n 0, 1) := by decide +kernel
theorem dX11_field_67 : decode cX11_field 67 = .ok (.bipush (-2), 2) := by decide +kernel
theorem dX11_field_69 : decode cX11_field 69 = .ok (.invokevirtual 59, 3) := by decide +kernel
theorem dX11_field_72 : decode cX11_field 72 = .ok (.ireturn, 1) := by decide +kernel
theorem dX11_field_50 : decode cX11_field 50 = .ok (.iload 4, 2) := by decide +kernel
theorem dX11_field_52 : decode cX11_field 52 = .ok (.iconst (-1), 1) := by decide +kernel
theorem dX11_field_53 : decode cX11_field 53 = .ok (.if_icmp .eq 20, 3) := by decide +kernel
theorem dX11_field_73 : decode cX11_field 73 = .ok (.iload 4, 2) := by decide +kernel
theorem dX11_field_75 : decode cX11_field 75 = .ok (.iconst (-1), 1) := by decide +kernel
theorem dX11_field_76 : decode cX11_field 76 = .ok (.if_icmp .eq 21, 3) := by decide +kernel
theorem dX11_field_97 : decode cX11_field 97 = .ok (.aload_n 0, 1) := by decide +kernel
theorem dX11_field_98 : decode cX11_field 98 = .ok (.getfield 12, 3) := by decide +kernel
theorem dX11_field_101 : decode cX11_field 101 = .ok (.getfield 114, 3) := by decide +kernel
theorem dX11_field_104 : decode cX11_field 104 = .ok (.getfield 130, 3) := by decide +kernel
theorem dX11_field_107 : decode cX11_field 107 = .ok (.bipush 40, 2) := by decide +kernel
theorem dX11_field_109 : decode cX11_field 109 = .ok (.if_icmp .lt 10, 3) := by decide +kernel
theorem dX11_field_119 : decode cX11_field 119 = .ok (.aload_n 0, 1) := by decide +kernel
theorem dX11_field_120 : decode cX11_field 120 = .ok (.getfield 12, 3) := by decide +kernel
theorem dX11_field_123 : decode cX11_field 123 = .ok (.getfield 114, 3) := by decide +kernel
theorem dX11_field_126 : decode cX11_field 126 = .ok (.iload_n 1, 1) := by decide +kernel
theorem dX11_field_127 : decode cX11_field 127 = .ok (.iload_n 2, 1) := by decide +kernel
theorem dX11_field_128 : decode cX11_field 128 = .ok (.iload_n 3, 1) := by decide +kernel
theorem dX11_field_129 : decode cX11_field 129 = .ok (.invokevirtual 131, 3) := by decide +kernel
theorem dX11_field_132 : decode cX11_field 132 = .ok (.istore 6, 2) := by decide +kernel
theorem dX11_field_134 : decode cX11_field 134 = .ok (.iload 4, 2) := by decide +kernel
theorem dX11_field_136 : decode cX11_field 136 = .ok (.iconst (-1), 1) := by decide +kernel
theorem dX11_field_137 : decode cX11_field 137 = .ok (.if_icmp .eq 15, 3) := by decide +kernel
theorem dX11_field_152 : decode cX11_field 152 = .ok (.aload_n 0, 1) := by decide +kernel
theorem dX11_field_153 : decode cX11_field 153 = .ok (.iload 6, 2) := by decide +kernel
theorem dX11_field_155 : decode cX11_field 155 = .ok (.invokevirtual 77, 3) := by decide +kernel
theorem dX11_field_158 : decode cX11_field 158 = .ok (.ireturn, 1) := by decide +kernel
theorem dX11_field_112 : decode cX11_field 112 = .ok (.aload_n 0, 1) := by decide +kernel
theorem dX11_field_113 : decode cX11_field 113 = .ok (.bipush (-5), 2) := by decide +kernel
theorem dX11_field_115 : decode cX11_field 115 = .ok (.invokevirtual 59, 3) := by decide +kernel
theorem dX11_field_118 : decode cX11_field 118 = .ok (.ireturn, 1) := by decide +kernel
theorem dX11_field_56 : decode cX11_field 56 = .ok (.aload 5, 2) := by decide +kernel
theorem dX11_field_58 : decode cX11_field 58 = .ok (.iload 4, 2) := by decide +kernel
theorem dX11_field_60 : decode cX11_field 60 = .ok (.invokevirtual 80, 3) := by decide +kernel
theorem dX11_field_63 : decode cX11_field 63 = .ok (.ifCond .ne 10, 3) := by decide +kernel
theorem dX11_field_79 : decode cX11_field 79 = .ok (.aload 5, 2) := by decide +kernel
theorem dX11_field_81 : decode cX11_field 81 = .ok (.getfield 87, 3) := by decide +kernel
theorem dX11_field_84 : decode cX11_field 84 = .ok (.iload 4, 2) := by decide +kernel
theorem dX11_field_86 : decode cX11_field 86 = .ok (.iaload, 1) := by decide +kernel
theorem dX11_field_87 : decode cX11_field 87 = .ok (.ifCond .eq 10, 3) := by decide +kernel
theorem dX11_field_140 : decode cX11_field 140 = .ok (.aload_n 0, 1) := by decide +kernel
theorem dX11_field_141 : decode cX11_field 141 = .ok (.getfield 12, 3) := by decide +kernel
theorem dX11_field_144 : decode cX11_field 144 = .ok (.iload 4, 2) := by decide +kernel
theorem dX11_field_146 : decode cX11_field 146 = .ok (.iload 6, 2) := by decide +kernel
theorem dX11_field_148 : decode cX11_field 148 = .ok (.iconst 0, 1) := by decide +kernel
theorem dX11_field_149 : decode cX11_field 149 = .ok (.invokevirtual 134, 3) := by decide +kernel
theorem dX11_field_90 : decode cX11_field 90 = .ok (.aload_n 0, 1) := by decide +kernel
theorem dX11_field_91 : decode cX11_field 91 = .ok (.bipush (-3), 2) := by decide +kernel
theorem dX11_field_93 : decode cX11_field 93 = .ok (.invokevirtual 59, 3) := by decide +kernel
theorem dX11_field_96 : decode cX11_field 96 = .ok (.ireturn, 1) := by decide +kernel
theorem dX11_force_0 : decode cX11_force 0 = .ok (.aload_n 0, 1) := by decide +kernel
theorem dX11_force_1 : decode cX11_force 1 = .ok (.getfield 12, 3) := by decide +kernel
theorem dX11_force_4 : decode cX11_force 4 = .ok (.getfield 219, 3) := by decide +kernel
theorem dX11_force_7 : decode cX11_force 7 = .ok (.astore 4, 2) := by decide +kernel
theorem dX11_force_9 : decode cX11_force 9 = .ok (.aload 4, 2) := by decide +kernel
theorem dX11_force_11 : decode cX11_force 11 = .ok (.iload_n 1, 1) := by decide +kernel
theorem dX11_force_12 : decode cX11_force 12 = .ok (.iload_n 2, 1) := by decide +kernel
theorem dX11_force_13 : decode cX11_force 13 = .ok (.invokevirtual 236, 3) := by decide +kernel
theorem dX11_force_16 : decode cX11_force 16 = .ok (.ifCond .eq 10, 3) := by decide +kernel
theorem dX11_force_26 : decode cX11_force 26 = .ok (.iconst (-1), 1) := by decide +kernel
theorem dX11_force_27 : decode cX11_force 27 = .ok (.ireturn, 1) := by decide +kernel
theorem dX11_force_19 : decode cX11_force 19 = .ok (.iload_n 3, 1) := by decide +kernel
theorem dX11_force_20 : decode cX11_force 20 = .ok (.invokestatic 191, 3) := by decide +kernel
theorem dX11_force_23 : decode cX11_force 23 = .ok (.ifCond .ne 5, 3) := by decide +kernel
theorem dX11_force_28 : decode cX11_force 28 = .ok (.aload 4, 2) := by decide +kernel
theorem dX11_force_30 : decode cX11_force 30 = .ok (.iload_n 3, 1) := by decide +kernel
theorem dX11_force_31 : decode cX11_force 31 = .ok (.invokevirtual 238, 3) := by decide +kernel
theorem dX11_force_34 : decode cX11_force 34 = .ok (.aload 4, 2) := by decide +kernel
theorem dX11_force_36 : decode cX11_force 36 = .ok (.iload_n 1, 1) := by decide +kernel
theorem dX11_force_37 : decode cX11_force 37 = .ok (.iload_n 2, 1) := by decide +kernel
theorem dX11_force_38 : decode cX11_force 38 = .ok (.invokevirtual 241, 3) := by decide +kernel
theorem dX11_force_41 : decode cX11_force 41 = .ok (.ifCond .eq 7, 3) := by decide +kernel
theorem dX11_force_49 : decode cX11_force 49 = .ok (.ireturn, 1) := by decide +kernel
theorem dX11_force_48 : decode cX11_force 48 = .ok (.iconst 0, 1) := by decide +kernel
theorem dX11_force_44 : decode cX11_force 44 = .ok (.iconst 1, 1) := by decide +kernel
theorem dX11_force_45 : decode cX11_force 45 = .ok (.goto 4, 3) := by decide +kernel
theorem dX11_found_0 : decode cX11_found 0 = .ok (.aload_n 0, 1) := by decide +kernel
theorem dX11_found_1 : decode cX11_found 1 = .ok (.getfield 12, 3) := by decide +kernel
theorem dX11_found_4 : decode cX11_found 4 = .ok (.getfield 114, 3) := by decide +kernel
theorem dX11_found_7 : decode cX11_found 7 = .ok (.invokevirtual 341, 3) := by decide +kernel
theorem dX11_found_10 : decode cX11_found 10 = .ok (.ireturn, 1) := by decide +kernel
theorem dX11_fund_0 : decode cX11_fund 0 = .ok (.aload_n 0, 1) := by decide +kernel
theorem dX11_fund_1 : decode cX11_fund 1 = .ok (.getfield 12, 3) := by decide +kernel
theorem dX11_fund_4 : decode cX11_fund 4 = .ok (.getfield 98, 3) := by decide +kernel
theorem dX11_fund_7 : decode cX11_fund 7 = .ok (.getfield 102, 3) := by decide +kernel
theorem dX11_fund_10 : decode cX11_fund 10 = .ok (.ireturn, 1) := by decide +kernel
theorem dX11_give_0 : decode cX11_give 0 = .ok (.iload_n 1, 1) := by decide +kernel
theorem dX11_give_1 : decode cX11_give 1 = .ok (.iconst 0, 1) := by decide +kernel
theorem dX11_give_2 : decode cX11_give 2 = .ok (.ldc 97, 2) := by decide +kernel
theorem dX11_give_4 : decode cX11_give 4 = .ok (.invokestatic 54, 3) := by decide +kernel
theorem dX11_give_7 : decode cX11_give 7 = .ok (.ifCond .ne 9, 3) := by decide +kernel
theorem dX11_give_16 : decode cX11_give 16 = .ok (.aload_n 0, 1) := by decide +kernel
theorem dX11_give_17 : decode cX11_give 17 = .ok (.getfield 12, 3) := by decide +kernel
theorem dX11_give_20 : decode cX11_give 20 = .ok (.getfield 98, 3) := by decide +kernel
theorem dX11_give_23 : decode cX11_give 23 = .ok (.astore_n 2, 1) := by decide +kernel
theorem dX11_give_24 : decode cX11_give 24 = .ok (.aload_n 2, 1) := by decide +kernel
theorem dX11_give_25 : decode cX11_give 25 = .ok (.aload_n 2, 1) := by decide +kernel
theorem dX11_give_26 : decode cX11_give 26 = .ok (.getfield 102, 3) := by decide +kernel
theorem dX11_give_29 : decode cX11_give 29 = .ok (.iload_n 1, 1) := by decide +kernel
theorem dX11_give_30 : decode cX11_give 30 = .ok (.iadd, 1) := by decide +kernel
theorem dX11_give_31 : decode cX11_give 31 = .ok (.ldc 107, 2) := by decide +kernel
theorem dX11_give_33 : decode cX11_give 33 = .ok (.invokestatic 108, 3) := by decide +kernel
theorem dX11_give_36 : decode cX11_give 36 = .ok (.putfield 102, 3) := by decide +kernel
theorem dX11_give_39 : decode cX11_give 39 = .ok (.aload_n 0, 1) := by decide +kernel
theorem dX11_give_40 : decode cX11_give 40 = .ok (.aload_n 2, 1) := by decide +kernel
theorem dX11_give_41 : decode cX11_give 41 = .ok (.getfield 102, 3) := by decide +kernel
theorem dX11_give_44 : decode cX11_give 44 = .ok (.invokevirtual 77, 3) := by decide +kernel
theorem dX11_give_47 : decode cX11_give 47 = .ok (.ireturn, 1) := by decide +kernel
theorem dX11_give_10 : decode cX11_give 10 = .ok (.aload_n 0, 1) := by decide +kernel
theorem dX11_give_11 : decode cX11_give 11 = .ok (.iconst (-1), 1) := by decide +kernel
theorem dX11_give_12 : decode cX11_give 12 = .ok (.invokevirtual 59, 3) := by decide +kernel
theorem dX11_give_15 : decode cX11_give 15 = .ok (.ireturn, 1) := by decide +kernel
theorem dX11_go_0 : decode cX11_go 0 = .ok (.aload_n 0, 1) := by decide +kernel
theorem dX11_go_1 : decode cX11_go 1 = .ok (.iload_n 1, 1) := by decide +kernel
theorem dX11_go_2 : decode cX11_go 2 = .ok (.invokevirtual 273, 3) := by decide +kernel
theorem dX11_go_5 : decode cX11_go 5 = .ok (.ifCond .ne 9, 3) := by decide +kernel
theorem dX11_go_14 : decode cX11_go 14 = .ok (.iconst 0, 1) := by decide +kernel
theorem dX11_go_15 : decode cX11_go 15 = .ok (.istore_n 2, 1) := by decide +kernel
theorem dX11_go_16 : decode cX11_go 16 = .ok (.iload_n 2, 1) := by decide +kernel
theorem dX11_go_17 : decode cX11_go 17 = .ok (.iload_n 1, 1) := by decide +kernel
theorem dX11_go_18 : decode cX11_go 18 = .ok (.if_icmp .ge 16, 3) := by decide +kernel
theorem dX11_go_34 : decode cX11_go 34 = .ok (.aload_n 0, 1) := by decide +kernel
theorem dX11_go_35 : decode cX11_go 35 = .ok (.aload_n 0, 1) := by decide +kernel
theorem dX11_go_36 : decode cX11_go 36 = .ok (.getfield 12, 3) := by decide +kernel
theorem dX11_go_39 : decode cX11_go 39 = .ok (.getfield 255, 3) := by decide +kernel
theorem dX11_go_42 : decode cX11_go 42 = .ok (.invokevirtual 77, 3) := by decide +kernel
theorem dX11_go_45 : decode cX11_go 45 = .ok (.ireturn, 1) := by decide +kernel
theorem dX11_go_21 : decode cX11_go 21 = .ok (.aload_n 0, 1) := by decide +kernel
theorem dX11_go_22 : decode cX11_go 22 = .ok (.getfield 12, 3) := by decide +kernel
theorem dX11_go_25 : decode cX11_go 25 = .ok (.invokevirtual 276, 3) := by decide +kernel
theorem dX11_go_28 : decode cX11_go 28 = .ok (.iinc 2 1, 3) := by decide +kernel
theorem dX11_go_31 : decode cX11_go 31 = .ok (.goto (-15), 3) := by decide +kernel
theorem dX11_go_8 : decode cX11_go 8 = .ok (.aload_n 0, 1) := by decide +kernel
theorem dX11_go_9 : decode cX11_go 9 = .ok (.iconst (-1), 1) := by decide +kernel
theorem dX11_go_10 : decode cX11_go 10 = .ok (.invokevirtual 59, 3) := by decide +kernel
theorem dX11_go_13 : decode cX11_go 13 = .ok (.ireturn, 1) := by decide +kernel
theorem dX11_goes_0 : decode cX11_goes 0 = .ok (.aload_n 0, 1) := by decide +kernel
theorem dX11_goes_1 : decode cX11_goes 1 = .ok (.getfield 12, 3) := by decide +kernel
theorem dX11_goes_4 : decode cX11_goes 4 = .ok (.getfield 63, 3) := by decide +kernel
theorem dX11_goes_7 : decode cX11_goes 7 = .ok (.astore_n 3, 1) := by decide +kernel
theorem dX11_goes_8 : decode cX11_goes 8 = .ok (.iload_n 2, 1) := by decide +kernel
theorem dX11_goes_9 : decode cX11_goes 9 = .ok (.iconst 0, 1) := by decide +kernel
theorem dX11_goes_10 : decode cX11_goes 10 = .ok (.iconst 4, 1) := by decide +kernel
theorem dX11_goes_11 : decode cX11_goes 11 = .ok (.invokestatic 54, 3) := by decide +kernel
theorem dX11_goes_14 : decode cX11_goes 14 = .ok (.ifCond .ne 9, 3) := by decide +kernel
theorem dX11_goes_23 : decode cX11_goes 23 = .ok (.aload_n 3, 1) := by decide +kernel
theorem dX11_goes_24 : decode cX11_goes 24 = .ok (.iload_n 1, 1) := by decide +kernel
theorem dX11_goes_25 : decode cX11_goes 25 = .ok (.invokevirtual 80, 3) := by decide +kernel
theorem dX11_goes_28 : decode cX11_goes 28 = .ok (.ifCond .ne 10, 3) := by decide +kernel
theorem dX11_goes_38 : decode cX11_goes 38 = .ok (.aload_n 3, 1) := by decide +kernel
theorem dX11_goes_39 : decode cX11_goes 39 = .ok (.getfield 87, 3) := by decide +kernel
theorem dX11_goes_42 : decode cX11_goes 42 = .ok (.iload_n 1, 1) := by decide +kernel
theorem dX11_goes_43 : decode cX11_goes 43 = .ok (.iaload, 1) := by decide +kernel
theorem dX11_goes_44 : decode cX11_goes 44 = .ok (.iconst 4, 1) := by decide +kernel
theorem dX11_goes_45 : decode cX11_goes 45 = .ok (.if_icmp .ne 10, 3) := by decide +kernel
theorem dX11_goes_55 : decode cX11_goes 55 = .ok (.aload_n 3, 1) := by decide +kernel
theorem dX11_goes_56 : decode cX11_goes 56 = .ok (.getfield 87, 3) := by decide +kernel
theorem dX11_goes_59 : decode cX11_goes 59 = .ok (.iload_n 1, 1) := by decide +kernel
theorem dX11_goes_60 : decode cX11_goes 60 = .ok (.iload_n 2, 1) := by decide +kernel
theorem dX11_goes_61 : decode cX11_goes 61 = .ok (.iastore, 1) := by decide +kernel
theorem dX11_goes_62 : decode cX11_goes 62 = .ok (.aload_n 0, 1) := by decide +kernel
theorem dX11_goes_63 : decode cX11_goes 63 = .ok (.iconst 0, 1) := by decide +kernel
theorem dX11_goes_64 : decode cX11_goes 64 = .ok (.invokevirtual 77, 3) := by decide +kernel
theorem dX11_goes_67 : decode cX11_goes 67 = .ok (.ireturn, 1) := by decide +kernel
theorem dX11_goes_48 : decode cX11_goes 48 = .ok (.aload_n 0, 1) := by decide +kernel
theorem dX11_goes_49 : decode cX11_goes 49 = .ok (.bipush (-3), 2) := by decide +kernel
theorem dX11_goes_51 : decode cX11_goes 51 = .ok (.invokevirtual 59, 3) := by decide +kernel
theorem dX11_goes_54 : decode cX11_goes 54 = .ok (.ireturn, 1) := by decide +kernel
theorem dX11_goes_31 : decode cX11_goes 31 = .ok (.aload_n 0, 1) := by decide +kernel
theorem dX11_goes_32 : decode cX11_goes 32 = .ok (.bipush (-2), 2) := by decide +kernel
theorem dX11_goes_34 : decode cX11_goes 34 = .ok (.invokevirtual 59, 3) := by decide +kernel
theorem dX11_goes_37 : decode cX11_goes 37 = .ok (.ireturn, 1) := by decide +kernel
theorem dX11_goes_17 : decode cX11_goes 17 = .ok (.aload_n 0, 1) := by decide +kernel
theorem dX11_goes_18 : decode cX11_goes 18 = .ok (.iconst (-1), 1) := by decide +kernel
theorem dX11_goes_19 : decode cX11_goes 19 = .ok (.invokevirtual 59, 3) := by decide +kernel
theorem dX11_goes_22 : decode cX11_goes 22 = .ok (.ireturn, 1) := by decide +kernel
theorem dX11_gotOnPaper_0 : decode cX11_gotOnPaper 0 = .ok (.aload_n 0, 1) := by decide +kernel
theorem dX11_gotOnPaper_1 : decode cX11_gotOnPaper 1 = .ok (.getfield 18, 3) := by decide +kernel
theorem dX11_gotOnPaper_4 : decode cX11_gotOnPaper 4 = .ok (.aload_n 0, 1) := by decide +kernel
theorem dX11_gotOnPaper_5 : decode cX11_gotOnPaper 5 = .ok (.getfield 12, 3) := by decide +kernel
theorem dX11_gotOnPaper_8 : decode cX11_gotOnPaper 8 = .ok (.invokevirtual 345, 3) := by decide +kernel
theorem dX11_gotOnPaper_11 : decode cX11_gotOnPaper 11 = .ok (.aload_n 2, 1) := by decide +kernel
theorem dX11_gotOnPaper_12 : decode cX11_gotOnPaper 12 = .ok (.ifnull 15, 3) := by decide +kernel
theorem dX11_gotOnPaper_15 : decode cX11_gotOnPaper 15 = .ok (.aload_n 0, 1) := by decide +kernel
theorem dX11_gotOnPaper_16 : decode cX11_gotOnPaper 16 = .ok (.getfield 18, 3) := by decide +kernel
theorem dX11_gotOnPaper_19 : decode cX11_gotOnPaper 19 = .ok (.getfield 219, 3) := by decide +kernel
theorem dX11_gotOnPaper_22 : decode cX11_gotOnPaper 22 = .ok (.aload_n 2, 1) := by decide +kernel
theorem dX11_gotOnPaper_23 : decode cX11_gotOnPaper 23 = .ok (.invokevirtual 230, 3) := by decide +kernel
theorem dX11_gotOnPaper_26 : decode cX11_gotOnPaper 26 = .ok (.pop, 1) := by decide +kernel
theorem dX11_gotOnPaper_27 : decode cX11_gotOnPaper 27 = .ok (.iconst 0, 1) := by decide +kernel
theorem dX11_gotOnPaper_28 : decode cX11_gotOnPaper 28 = .ok (.istore_n 3, 1) := by decide +kernel
theorem dX11_gotOnPaper_29 : decode cX11_gotOnPaper 29 = .ok (.iload_n 3, 1) := by decide +kernel
theorem dX11_gotOnPaper_30 : decode cX11_gotOnPaper 30 = .ok (.iload_n 1, 1) := by decide +kernel
theorem dX11_gotOnPaper_31 : decode cX11_gotOnPaper 31 = .ok (.if_icmp .ge 16, 3) := by decide +kernel
theorem dX11_gotOnPaper_47 : decode cX11_gotOnPaper 47 = .ok (.aload_n 0, 1) := by decide +kernel
theorem dX11_gotOnPaper_48 : decode cX11_gotOnPaper 48 = .ok (.getfield 18, 3) := by decide +kernel
theorem dX11_gotOnPaper_51 : decode cX11_gotOnPaper 51 = .ok (.getfield 395, 3) := by decide +kernel
theorem dX11_gotOnPaper_54 : decode cX11_gotOnPaper 54 = .ok (.lreturn, 1) := by decide +kernel
theorem dX11_gotOnPaper_34 : decode cX11_gotOnPaper 34 = .ok (.aload_n 0, 1) := by decide +kernel
theorem dX11_gotOnPaper_35 : decode cX11_gotOnPaper 35 = .ok (.getfield 18, 3) := by decide +kernel
theorem dX11_gotOnPaper_38 : decode cX11_gotOnPaper 38 = .ok (.invokevirtual 276, 3) := by decide +kernel
theorem dX11_gotOnPaper_41 : decode cX11_gotOnPaper 41 = .ok (.iinc 3 1, 3) := by decide +kernel
theorem dX11_gotOnPaper_44 : decode cX11_gotOnPaper 44 = .ok (.goto (-15), 3) := by decide +kernel
theorem dX11_guard_0 : decode cX11_guard 0 = .ok (.aload_n 0, 1) := by decide +kernel
theorem dX11_guard_1 : decode cX11_guard 1 = .ok (.getfield 12, 3) := by decide +kernel
theorem dX11_guard_4 : decode cX11_guard 4 = .ok (.getfield 170, 3) := by decide +kernel
theorem dX11_guard_7 : decode cX11_guard 7 = .ok (.astore 4, 2) := by decide +kernel
theorem dX11_guard_9 : decode cX11_guard 9 = .ok (.iload_n 2, 1) := by decide +kernel
theorem dX11_guard_10 : decode cX11_guard 10 = .ok (.invokestatic 191, 3) := by decide +kernel
theorem dX11_guard_13 : decode cX11_guard 13 = .ok (.ifCond .eq 15, 3) := by decide +kernel
theorem dX11_guard_28 : decode cX11_guard 28 = .ok (.aload_n 0, 1) := by decide +kernel
theorem dX11_guard_29 : decode cX11_guard 29 = .ok (.iconst (-1), 1) := by decide +kernel
theorem dX11_guard_30 : decode cX11_guard 30 = .ok (.invokevirtual 59, 3) := by decide +kernel
theorem dX11_guard_33 : decode cX11_guard 33 = .ok (.ireturn, 1) := by decide +kernel
theorem dX11_guard_16 : decode cX11_guard 16 = .ok (.iload_n 3, 1) := by decide +kernel
theorem dX11_guard_17 : decode cX11_guard 17 = .ok (.invokestatic 191, 3) := by decide +kernel
theorem dX11_guard_20 : decode cX11_guard 20 = .ok (.ifCond .eq 8, 3) := by decide +kernel
theorem dX11_guard_23 : decode cX11_guard 23 = .ok (.iload_n 2, 1) := by decide +kernel
theorem dX11_guard_24 : decode cX11_guard 24 = .ok (.iload_n 3, 1) := by decide +kernel
theorem dX11_guard_25 : decode cX11_guard 25 = .ok (.if_icmp .le 9, 3) := by decide +kernel
theorem dX11_guard_34 : decode cX11_guard 34 = .ok (.aload_n 0, 1) := by decide +kernel
theorem dX11_guard_35 : decode cX11_guard 35 = .ok (.getfield 12, 3) := by decide +kernel
theorem dX11_guard_38 : decode cX11_guard 38 = .ok (.getfield 114, 3) := by decide +kernel
theorem dX11_guard_41 : decode cX11_guard 41 = .ok (.iload_n 1, 1) := by decide +kernel
theorem dX11_guard_42 : decode cX11_guard 42 = .ok (.invokevirtual 150, 3) := by decide +kernel
theorem dX11_guard_45 : decode cX11_guard 45 = .ok (.ifCond .ne 10, 3) := by decide +kernel
theorem dX11_guard_55 : decode cX11_guard 55 = .ok (.aload 4, 2) := by decide +kernel
theorem dX11_guard_57 : decode cX11_guard 57 = .ok (.getfield 264, 3) := by decide +kernel
theorem dX11_guard_60 : decode cX11_guard 60 = .ok (.bipush 40, 2) := by decide +kernel
theorem dX11_guard_62 : decode cX11_guard 62 = .ok (.if_icmp .lt 10, 3) := by decide +kernel
theorem dX11_guard_72 : decode cX11_guard 72 = .ok (.aload 4, 2) := by decide +kernel
theorem dX11_guard_74 : decode cX11_guard 74 = .ok (.iload_n 1, 1) := by decide +kernel
theorem dX11_guard_75 : decode cX11_guard 75 = .ok (.iload_n 2, 1) := by decide +kernel
theorem dX11_guard_76 : decode cX11_guard 76 = .ok (.iload_n 3, 1) := by decide +kernel
theorem dX11_guard_77 : decode cX11_guard 77 = .ok (.invokevirtual 267, 3) := by decide +kernel
theorem dX11_guard_80 : decode cX11_guard 80 = .ok (.aload_n 0, 1) := by decide +kernel
theorem dX11_guard_81 : decode cX11_guard 81 = .ok (.aload 4, 2) := by decide +kernel
theorem dX11_guard_83 : decode cX11_guard 83 = .ok (.getfield 264, 3) := by decide +kernel
theorem dX11_guard_86 : decode cX11_guard 86 = .ok (.invokevirtual 77, 3) := by decide +kernel
theorem dX11_guard_89 : decode cX11_guard 89 = .ok (.ireturn, 1) := by decide +kernel
theorem dX11_guard_65 : decode cX11_guard 65 = .ok (.aload_n 0, 1) := by decide +kernel
theorem dX11_guard_66 : decode cX11_guard 66 = .ok (.bipush (-5), 2) := by decide +kernel
theorem dX11_guard_68 : decode cX11_guard 68 = .ok (.invokevirtual 59, 3) := by decide +kernel
theorem dX11_guard_71 : decode cX11_guard 71 = .ok (.ireturn, 1) := by decide +kernel
theorem dX11_guard_48 : decode cX11_guard 48 = .ok (.aload_n 0, 1) := by decide +kernel
theorem dX11_guard_49 : decode cX11_guard 49 = .ok (.bipush (-2), 2) := by decide +kernel
theorem dX11_guard_51 : decode cX11_guard 51 = .ok (.invokevirtual 59, 3) := by decide +kernel
theorem dX11_guard_54 : decode cX11_guard 54 = .ok (.ireturn, 1) := by decide +kernel
theorem dX11_heed_0 : decode cX11_heed 0 = .ok (.aload_n 0, 1) := by decide +kernel
theorem dX11_heed_1 : decode cX11_heed 1 = .ok (.getfield 12, 3) := by decide +kernel
theorem dX11_heed_4 : decode cX11_heed 4 = .ok (.getfield 63, 3) := by decide +kernel
theorem dX11_heed_7 : decode cX11_heed 7 = .ok (.astore_n 3, 1) := by decide +kernel
theorem dX11_heed_8 : decode cX11_heed 8 = .ok (.aload_n 3, 1) := by decide +kernel
theorem dX11_heed_9 : decode cX11_heed 9 = .ok (.iload_n 1, 1) := by decide +kernel
theorem dX11_heed_10 : decode cX11_heed 10 = .ok (.invokevirtual 80, 3) := by decide +kernel
theorem dX11_heed_13 : decode cX11_heed 13 = .ok (.ifCond .eq 16, 3) := by decide +kernel
theorem dX11_heed_29 : decode cX11_heed 29 = .ok (.aload_n 0, 1) := by decide +kernel
theorem dX11_heed_30 : decode cX11_heed 30 = .ok (.bipush (-2), 2) := by decide +kernel
theorem dX11_heed_32 : decode cX11_heed 32 = .ok (.invokevirtual 59, 3) := by decide +kernel
theorem dX11_heed_35 : decode cX11_heed 35 = .ok (.ireturn, 1) := by decide +kernel
theorem dX11_heed_16 : decode cX11_heed 16 = .ok (.iload_n 2, 1) := by decide +kernel
theorem dX11_heed_17 : decode cX11_heed 17 = .ok (.iconst (-1), 1) := by decide +kernel
theorem dX11_heed_18 : decode cX11_heed 18 = .ok (.if_icmp .eq 18, 3) := by decide +kernel
theorem dX11_heed_36 : decode cX11_heed 36 = .ok (.iload_n 1, 1) := by decide +kernel
theorem dX11_heed_37 : decode cX11_heed 37 = .ok (.iload_n 2, 1) := by decide +kernel
theorem dX11_heed_38 : decode cX11_heed 38 = .ok (.if_icmp .ne 10, 3) := by decide +kernel
theorem dX11_heed_48 : decode cX11_heed 48 = .ok (.aload_n 3, 1) := by decide +kernel
theorem dX11_heed_49 : decode cX11_heed 49 = .ok (.getfield 84, 3) := by decide +kernel
theorem dX11_heed_52 : decode cX11_heed 52 = .ok (.iload_n 1, 1) := by decide +kernel
theorem dX11_heed_53 : decode cX11_heed 53 = .ok (.iload_n 2, 1) := by decide +kernel
theorem dX11_heed_54 : decode cX11_heed 54 = .ok (.iastore, 1) := by decide +kernel
theorem dX11_heed_55 : decode cX11_heed 55 = .ok (.aload_n 0, 1) := by decide +kernel
theorem dX11_heed_56 : decode cX11_heed 56 = .ok (.iconst 0, 1) := by decide +kernel
theorem dX11_heed_57 : decode cX11_heed 57 = .ok (.invokevirtual 77, 3) := by decide +kernel
theorem dX11_heed_60 : decode cX11_heed 60 = .ok (.ireturn, 1) := by decide +kernel
theorem dX11_heed_21 : decode cX11_heed 21 = .ok (.aload_n 3, 1) := by decide +kernel
theorem dX11_heed_22 : decode cX11_heed 22 = .ok (.iload_n 2, 1) := by decide +kernel
theorem dX11_heed_23 : decode cX11_heed 23 = .ok (.invokevirtual 80, 3) := by decide +kernel
theorem dX11_heed_26 : decode cX11_heed 26 = .ok (.ifCond .ne 10, 3) := by decide +kernel
theorem dX11_heed_41 : decode cX11_heed 41 = .ok (.aload_n 0, 1) := by decide +kernel
theorem dX11_heed_42 : decode cX11_heed 42 = .ok (.bipush (-3), 2) := by decide +kernel
theorem dX11_heed_44 : decode cX11_heed 44 = .ok (.invokevirtual 59, 3) := by decide +kernel
theorem dX11_heed_47 : decode cX11_heed 47 = .ok (.ireturn, 1) := by decide +kernel
theorem dX11_holds_0 : decode cX11_holds 0 = .ok (.aload_n 0, 1) := by decide +kernel
theorem dX11_holds_1 : decode cX11_holds 1 = .ok (.getfield 12, 3) := by decide +kernel
theorem dX11_holds_4 : decode cX11_holds 4 = .ok (.getfield 219, 3) := by decide +kernel
theorem dX11_holds_7 : decode cX11_holds 7 = .ok (.iload_n 1, 1) := by decide +kernel
theorem dX11_holds_8 : decode cX11_holds 8 = .ok (.iload_n 2, 1) := by decide +kernel
theorem dX11_holds_9 : decode cX11_holds 9 = .ok (.invokevirtual 236, 3) := by decide +kernel
theorem dX11_holds_12 : decode cX11_holds 12 = .ok (.ifCond .eq 43, 3) := by decide +kernel
theorem dX11_holds_55 : decode cX11_holds 55 = .ok (.iconst (-1), 1) := by decide +kernel
theorem dX11_holds_56 : decode cX11_holds 56 = .ok (.ireturn, 1) := by decide +kernel
theorem dX11_holds_15 : decode cX11_holds 15 = .ok (.iload_n 3, 1) := by decide +kernel
theorem dX11_holds_16 : decode cX11_holds 16 = .ok (.iconst (-1), 1) := by decide +kernel
theorem dX11_holds_17 : decode cX11_holds 17 = .ok (.if_icmp .eq 17, 3) := by decide +kernel
theorem dX11_holds_34 : decode cX11_holds 34 = .ok (.iload 4, 2) := by decide +kernel
theorem dX11_holds_36 : decode cX11_holds 36 = .ok (.iconst (-1), 1) := by decide +kernel
theorem dX11_holds_37 : decode cX11_holds 37 = .ok (.if_icmp .eq 20, 3) := by decide +kernel
theorem dX11_holds_57 : decode cX11_holds 57 = .ok (.aload_n 0, 1) := by decide +kernel
theorem dX11_holds_58 : decode cX11_holds 58 = .ok (.getfield 12, 3) := by decide +kernel
theorem dX11_holds_61 : decode cX11_holds 61 = .ok (.invokevirtual 151, 3) := by decide +kernel
theorem dX11_holds_64 : decode cX11_holds 64 = .ok (.aload_n 0, 1) := by decide +kernel
theorem dX11_holds_65 : decode cX11_holds 65 = .ok (.getfield 12, 3) := by decide +kernel
theorem dX11_holds_68 : decode cX11_holds 68 = .ok (.iload_n 1, 1) := by decide +kernel
theorem dX11_holds_69 : decode cX11_holds 69 = .ok (.iload_n 2, 1) := by decide +kernel
theorem dX11_holds_70 : decode cX11_holds 70 = .ok (.iload_n 3, 1) := by decide +kernel
theorem dX11_holds_71 : decode cX11_holds 71 = .ok (.iload 4, 2) := by decide +kernel
theorem dX11_holds_73 : decode cX11_holds 73 = .ok (.invokevirtual 244, 3) := by decide +kernel
theorem dX11_holds_76 : decode cX11_holds 76 = .ok (.ifCond .eq 7, 3) := by decide +kernel
theorem dX11_holds_84 : decode cX11_holds 84 = .ok (.ireturn, 1) := by decide +kernel
theorem dX11_holds_83 : decode cX11_holds 83 = .ok (.iconst 0, 1) := by decide +kernel
theorem dX11_holds_79 : decode cX11_holds 79 = .ok (.iconst 1, 1) := by decide +kernel
theorem dX11_holds_80 : decode cX11_holds 80 = .ok (.goto 4, 3) := by decide +kernel
theorem dX11_holds_40 : decode cX11_holds 40 = .ok (.aload_n 0, 1) := by decide +kernel
theorem dX11_holds_41 : decode cX11_holds 41 = .ok (.getfield 12, 3) := by decide +kernel
theorem dX11_holds_44 : decode cX11_holds 44 = .ok (.getfield 114, 3) := by decide +kernel
theorem dX11_holds_47 : decode cX11_holds 47 = .ok (.iload 4, 2) := by decide +kernel
theorem dX11_holds_49 : decode cX11_holds 49 = .ok (.invokevirtual 150, 3) := by decide +kernel
theorem dX11_holds_52 : decode cX11_holds 52 = .ok (.ifCond .ne 5, 3) := by decide +kernel
theorem dX11_holds_20 : decode cX11_holds 20 = .ok (.aload_n 0, 1) := by decide +kernel
theorem dX11_holds_21 : decode cX11_holds 21 = .ok (.getfield 12, 3) := by decide +kernel
theorem dX11_holds_24 : decode cX11_holds 24 = .ok (.getfield 63, 3) := by decide +kernel
theorem dX11_holds_27 : decode cX11_holds 27 = .ok (.iload_n 3, 1) := by decide +kernel
theorem dX11_holds_28 : decode cX11_holds 28 = .ok (.invokevirtual 80, 3) := by decide +kernel
theorem dX11_holds_31 : decode cX11_holds 31 = .ok (.ifCond .eq 24, 3) := by decide +kernel
theorem dX11_image_0 : decode cX11_image 0 = .ok (.iload_n 1, 1) := by decide +kernel
theorem dX11_image_1 : decode cX11_image 1 = .ok (.iconst 0, 1) := by decide +kernel
theorem dX11_image_2 : decode cX11_image 2 = .ok (.iconst 1, 1) := by decide +kernel
theorem dX11_image_3 : decode cX11_image 3 = .ok (.invokestatic 54, 3) := by decide +kernel
theorem dX11_image_6 : decode cX11_image 6 = .ok (.ifCond .ne 9, 3) := by decide +kernel
theorem dX11_image_15 : decode cX11_image 15 = .ok (.iload_n 1, 1) := by decide +kernel
theorem dX11_image_16 : decode cX11_image 16 = .ok (.ifCond .ne 22, 3) := by decide +kernel
theorem dX11_image_54 : decode cX11_image 54 = .ok (.aload_n 0, 1) := by decide +kernel
theorem dX11_image_55 : decode cX11_image 55 = .ok (.iconst 0, 1) := by decide +kernel
theorem dX11_image_56 : decode cX11_image 56 = .ok (.invokevirtual 77, 3) := by decide +kernel
theorem dX11_image_59 : decode cX11_image 59 = .ok (.ireturn, 1) := by decide +kernel
theorem dX11_image_38 : decode cX11_image 38 = .ok (.aload_n 0, 1) := by decide +kernel
theorem dX11_image_39 : decode cX11_image 39 = .ok (.getfield 24, 3) := by decide +kernel
theorem dX11_image_42 : decode cX11_image 42 = .ok (.aload_n 0, 1) := by decide +kernel
theorem dX11_image_43 : decode cX11_image 43 = .ok (.getfield 12, 3) := by decide +kernel
theorem dX11_image_46 : decode cX11_image 46 = .ok (.invokevirtual 345, 3) := by decide +kernel
theorem dX11_image_49 : decode cX11_image 49 = .ok (.aload_n 0, 1) := by decide +kernel
theorem dX11_image_50 : decode cX11_image 50 = .ok (.iconst 1, 1) := by decide +kernel
theorem dX11_image_51 : decode cX11_image 51 = .ok (.putfield 353, 3) := by decide +kernel
theorem dX11_image_19 : decode cX11_image 19 = .ok (.aload_n 0, 1) := by decide +kernel
theorem dX11_image_20 : decode cX11_image 20 = .ok (.getfield 21, 3) := by decide +kernel
theorem dX11_image_23 : decode cX11_image 23 = .ok (.aload_n 0, 1) := by decide +kernel
theorem dX11_image_24 : decode cX11_image 24 = .ok (.getfield 12, 3) := by decide +kernel
theorem dX11_image_27 : decode cX11_image 27 = .ok (.invokevirtual 345, 3) := by decide +kernel
theorem dX11_image_30 : decode cX11_image 30 = .ok (.aload_n 0, 1) := by decide +kernel
theorem dX11_image_31 : decode cX11_image 31 = .ok (.iconst 1, 1) := by decide +kernel
theorem dX11_image_32 : decode cX11_image 32 = .ok (.putfield 349, 3) := by decide +kernel
theorem dX11_image_35 : decode cX11_image 35 = .ok (.goto 19, 3) := by decide +kernel
theorem dX11_image_9 : decode cX11_image 9 = .ok (.aload_n 0, 1) := by decide +kernel
theorem dX11_image_10 : decode cX11_image 10 = .ok (.iconst (-1), 1) := by decide +kernel
theorem dX11_image_11 : decode cX11_image 11 = .ok (.invokevirtual 59, 3) := by decide +kernel
theorem dX11_image_14 : decode cX11_image 14 = .ok (.ireturn, 1) := by decide +kernel
theorem dX11_isWished_0 : decode cX11_isWished 0 = .ok (.iconst 0, 1) := by decide +kernel
theorem dX11_isWished_1 : decode cX11_isWished 1 = .ok (.istore_n 2, 1) := by decide +kernel
theorem dX11_isWished_2 : decode cX11_isWished 2 = .ok (.iload_n 2, 1) := by decide +kernel
theorem dX11_isWished_3 : decode cX11_isWished 3 = .ok (.aload_n 0, 1) := by decide +kernel
theorem dX11_isWished_4 : decode cX11_isWished 4 = .ok (.getfield 309, 3) := by decide +kernel
theorem dX11_isWished_7 : decode cX11_isWished 7 = .ok (.if_icmp .ge 21, 3) := by decide +kernel
theorem dX11_isWished_28 : decode cX11_isWished 28 = .ok (.iconst 0, 1) := by decide +kernel
theorem dX11_isWished_29 : decode cX11_isWished 29 = .ok (.ireturn, 1) := by decide +kernel
theorem dX11_isWished_10 : decode cX11_isWished 10 = .ok (.aload_n 0, 1) := by decide +kernel
theorem dX11_isWished_11 : decode cX11_isWished 11 = .ok (.getfield 41, 3) := by decide +kernel
theorem dX11_isWished_14 : decode cX11_isWished 14 = .ok (.iload_n 2, 1) := by decide +kernel
theorem dX11_isWished_15 : decode cX11_isWished 15 = .ok (.iaload, 1) := by decide +kernel
theorem dX11_isWished_16 : decode cX11_isWished 16 = .ok (.iload_n 1, 1) := by decide +kernel
theorem dX11_isWished_17 : decode cX11_isWished 17 = .ok (.if_icmp .ne 5, 3) := by decide +kernel
theorem dX11_isWished_22 : decode cX11_isWished 22 = .ok (.iinc 2 1, 3) := by decide +kernel
theorem dX11_isWished_25 : decode cX11_isWished 25 = .ok (.goto (-23), 3) := by decide +kernel
theorem dX11_isWished_20 : decode cX11_isWished 20 = .ok (.iconst 1, 1) := by decide +kernel
theorem dX11_isWished_21 : decode cX11_isWished 21 = .ok (.ireturn, 1) := by decide +kernel
theorem dX11_judge_0 : decode cX11_judge 0 = .ok (.aload_n 0, 1) := by decide +kernel
theorem dX11_judge_1 : decode cX11_judge 1 = .ok (.iload_n 2, 1) := by decide +kernel
theorem dX11_judge_2 : decode cX11_judge 2 = .ok (.invokevirtual 315, 3) := by decide +kernel
theorem dX11_judge_5 : decode cX11_judge 5 = .ok (.ifCond .eq 19, 3) := by decide +kernel
theorem dX11_judge_24 : decode cX11_judge 24 = .ok (.iconst (-1), 1) := by decide +kernel
theorem dX11_judge_25 : decode cX11_judge 25 = .ok (.ireturn, 1) := by decide +kernel
theorem dX11_judge_8 : decode cX11_judge 8 = .ok (.iload_n 1, 1) := by decide +kernel
theorem dX11_judge_9 : decode cX11_judge 9 = .ok (.iconst 0, 1) := by decide +kernel
theorem dX11_judge_10 : decode cX11_judge 10 = .ok (.iconst 1, 1) := by decide +kernel
theorem dX11_judge_11 : decode cX11_judge 11 = .ok (.aload_n 0, 1) := by decide +kernel
theorem dX11_judge_12 : decode cX11_judge 12 = .ok (.getfield 309, 3) := by decide +kernel
theorem dX11_judge_15 : decode cX11_judge 15 = .ok (.ishl, 1) := by decide +kernel
theorem dX11_judge_16 : decode cX11_judge 16 = .ok (.iconst 1, 1) := by decide +kernel
theorem dX11_judge_17 : decode cX11_judge 17 = .ok (.isub, 1) := by decide +kernel
theorem dX11_judge_18 : decode cX11_judge 18 = .ok (.invokestatic 54, 3) := by decide +kernel
theorem dX11_judge_21 : decode cX11_judge 21 = .ok (.ifCond .ne 5, 3) := by decide +kernel
theorem dX11_judge_26 : decode cX11_judge 26 = .ok (.aload_n 0, 1) := by decide +kernel
theorem dX11_judge_27 : decode cX11_judge 27 = .ok (.iload_n 1, 1) := by decide +kernel
theorem dX11_judge_28 : decode cX11_judge 28 = .ok (.iload_n 2, 1) := by decide +kernel
theorem dX11_judge_29 : decode cX11_judge 29 = .ok (.bipush 41, 2) := by decide +kernel
theorem dX11_judge_31 : decode cX11_judge 31 = .ok (.invokevirtual 326, 3) := by decide +kernel
theorem dX11_judge_34 : decode cX11_judge 34 = .ok (.ireturn, 1) := by decide +kernel
theorem dX11_keeps_0 : decode cX11_keeps 0 = .ok (.aload_n 0, 1) := by decide +kernel
theorem dX11_keeps_1 : decode cX11_keeps 1 = .ok (.getfield 12, 3) := by decide +kernel
theorem dX11_keeps_4 : decode cX11_keeps 4 = .ok (.getfield 63, 3) := by decide +kernel
theorem dX11_keeps_7 : decode cX11_keeps 7 = .ok (.astore_n 3, 1) := by decide +kernel
theorem dX11_keeps_8 : decode cX11_keeps 8 = .ok (.aload_n 3, 1) := by decide +kernel
theorem dX11_keeps_9 : decode cX11_keeps 9 = .ok (.iload_n 1, 1) := by decide +kernel
theorem dX11_keeps_10 : decode cX11_keeps 10 = .ok (.invokevirtual 80, 3) := by decide +kernel
theorem dX11_keeps_13 : decode cX11_keeps 13 = .ok (.ifCond .eq 16, 3) := by decide +kernel
theorem dX11_keeps_29 : decode cX11_keeps 29 = .ok (.iconst (-1), 1) := by decide +kernel
theorem dX11_keeps_30 : decode cX11_keeps 30 = .ok (.ireturn, 1) := by decide +kernel
theorem dX11_keeps_16 : decode cX11_keeps 16 = .ok (.aload_n 3, 1) := by decide +kernel
theorem dX11_keeps_17 : decode cX11_keeps 17 = .ok (.iload_n 2, 1) := by decide +kernel
theorem dX11_keeps_18 : decode cX11_keeps 18 = .ok (.invokevirtual 80, 3) := by decide +kernel
theorem dX11_keeps_21 : decode cX11_keeps 21 = .ok (.ifCond .eq 8, 3) := by decide +kernel
theorem dX11_keeps_24 : decode cX11_keeps 24 = .ok (.iload_n 1, 1) := by decide +kernel
theorem dX11_keeps_25 : decode cX11_keeps 25 = .ok (.iload_n 2, 1) := by decide +kernel
theorem dX11_keeps_26 : decode cX11_keeps 26 = .ok (.if_icmp .ne 5, 3) := by decide +kernel
theorem dX11_keeps_31 : decode cX11_keeps 31 = .ok (.aload_n 3, 1) := by decide +kernel
theorem dX11_keeps_32 : decode cX11_keeps 32 = .ok (.iload_n 1, 1) := by decide +kernel
theorem dX11_keeps_33 : decode cX11_keeps 33 = .ok (.iload_n 2, 1) := by decide +kernel
theorem dX11_keeps_34 : decode cX11_keeps 34 = .ok (.aload_n 0, 1) := by decide +kernel
theorem dX11_keeps_35 : decode cX11_keeps 35 = .ok (.getfield 12, 3) := by decide +kernel
theorem dX11_keeps_38 : decode cX11_keeps 38 = .ok (.getfield 98, 3) := by decide +kernel
theorem dX11_keeps_41 : decode cX11_keeps 41 = .ok (.getfield 282, 3) := by decide +kernel
theorem dX11_keeps_44 : decode cX11_keeps 44 = .ok (.invokevirtual 285, 3) := by decide +kernel
theorem dX11_keeps_47 : decode cX11_keeps 47 = .ok (.ifCond .eq 7, 3) := by decide +kernel
theorem dX11_keeps_55 : decode cX11_keeps 55 = .ok (.ireturn, 1) := by decide +kernel
theorem dX11_keeps_54 : decode cX11_keeps 54 = .ok (.iconst 0, 1) := by decide +kernel
theorem dX11_keeps_50 : decode cX11_keeps 50 = .ok (.iconst 1, 1) := by decide +kernel
theorem dX11_keeps_51 : decode cX11_keeps 51 = .ok (.goto 4, 3) := by decide +kernel
theorem dX11_last_0 : decode cX11_last 0 = .ok (.iload_n 1, 1) := by decide +kernel
theorem dX11_last_1 : decode cX11_last 1 = .ok (.iconst 1, 1) := by decide +kernel
theorem dX11_last_2 : decode cX11_last 2 = .ok (.sipush 10000, 3) := by decide +kernel
theorem dX11_last_5 : decode cX11_last 5 = .ok (.invokestatic 54, 3) := by decide +kernel
theorem dX11_last_8 : decode cX11_last 8 = .ok (.ifCond .eq 25, 3) := by decide +kernel
theorem dX11_last_33 : decode cX11_last 33 = .ok (.iconst (-1), 1) := by decide +kernel
theorem dX11_last_34 : decode cX11_last 34 = .ok (.ireturn, 1) := by decide +kernel
theorem dX11_last_11 : decode cX11_last 11 = .ok (.iload_n 2, 1) := by decide +kernel
theorem dX11_last_12 : decode cX11_last 12 = .ok (.iconst 0, 1) := by decide +kernel
theorem dX11_last_13 : decode cX11_last 13 = .ok (.sipush 1000, 3) := by decide +kernel
theorem dX11_last_16 : decode cX11_last 16 = .ok (.invokestatic 54, 3) := by decide +kernel
theorem dX11_last_19 : decode cX11_last 19 = .ok (.ifCond .eq 14, 3) := by decide +kernel
theorem dX11_last_22 : decode cX11_last 22 = .ok (.iload_n 3, 1) := by decide +kernel
theorem dX11_last_23 : decode cX11_last 23 = .ok (.iconst 0, 1) := by decide +kernel
theorem dX11_last_24 : decode cX11_last 24 = .ok (.sipush 1000, 3) := by decide +kernel
theorem dX11_last_27 : decode cX11_last 27 = .ok (.invokestatic 54, 3) := by decide +kernel
theorem dX11_last_30 : decode cX11_last 30 = .ok (.ifCond .ne 5, 3) := by decide +kernel
theorem dX11_last_35 : decode cX11_last 35 = .ok (.aload_n 0, 1) := by decide +kernel
theorem dX11_last_36 : decode cX11_last 36 = .ok (.getfield 12, 3) := by decide +kernel
theorem dX11_last_39 : decode cX11_last 39 = .ok (.getfield 98, 3) := by decide +kernel
theorem dX11_last_42 : decode cX11_last 42 = .ok (.getfield 102, 3) := by decide +kernel
theorem dX11_last_45 : decode cX11_last 45 = .ok (.i2l, 1) := by decide +kernel
theorem dX11_last_46 : decode cX11_last 46 = .ok (.lstore 4, 2) := by decide +kernel
theorem dX11_last_48 : decode cX11_last 48 = .ok (.iload_n 2, 1) := by decide +kernel
theorem dX11_last_49 : decode cX11_last 49 = .ok (.i2l, 1) := by decide +kernel
theorem dX11_last_50 : decode cX11_last 50 = .ok (.lstore 6, 2) := by decide +kernel
theorem dX11_last_52 : decode cX11_last 52 = .ok (.iconst 0, 1) := by decide +kernel
theorem dX11_last_53 : decode cX11_last 53 = .ok (.istore 8, 2) := by decide +kernel
theorem dX11_last_55 : decode cX11_last 55 = .ok (.iload 8, 2) := by decide +kernel
theorem dX11_last_57 : decode cX11_last 57 = .ok (.sipush 400, 3) := by decide +kernel
theorem dX11_last_60 : decode cX11_last 60 = .ok (.if_icmp .ge 36, 3) := by decide +kernel
theorem dX11_last_96 : decode cX11_last 96 = .ok (.sipush 400, 3) := by decide +kernel
theorem dX11_last_99 : decode cX11_last 99 = .ok (.ireturn, 1) := by decide +kernel
theorem dX11_last_63 : decode cX11_last 63 = .ok (.lload 4, 2) := by decide +kernel
theorem dX11_last_65 : decode cX11_last 65 = .ok (.iload_n 1, 1) := by decide +kernel
theorem dX11_last_66 : decode cX11_last 66 = .ok (.i2l, 1) := by decide +kernel
theorem dX11_last_67 : decode cX11_last 67 = .ok (.lload 6, 2) := by decide +kernel
theorem dX11_last_69 : decode cX11_last 69 = .ok (.lmul, 1) := by decide +kernel
theorem dX11_last_70 : decode cX11_last 70 = .ok (.lsub, 1) := by decide +kernel
theorem dX11_last_71 : decode cX11_last 71 = .ok (.lstore 4, 2) := by decide +kernel
theorem dX11_last_73 : decode cX11_last 73 = .ok (.lload 4, 2) := by decide +kernel
theorem dX11_last_75 : decode cX11_last 75 = .ok (.lconst 0, 1) := by decide +kernel
theorem dX11_last_76 : decode cX11_last 76 = .ok (.lcmp, 1) := by decide +kernel
theorem dX11_last_77 : decode cX11_last 77 = .ok (.ifCond .ge 6, 3) := by decide +kernel
theorem dX11_last_83 : decode cX11_last 83 = .ok (.lload 6, 2) := by decide +kernel
theorem dX11_last_85 : decode cX11_last 85 = .ok (.iload_n 3, 1) := by decide +kernel
theorem dX11_last_86 : decode cX11_last 86 = .ok (.i2l, 1) := by decide +kernel
theorem dX11_last_87 : decode cX11_last 87 = .ok (.ladd, 1) := by decide +kernel
theorem dX11_last_88 : decode cX11_last 88 = .ok (.lstore 6, 2) := by decide +kernel
theorem dX11_last_90 : decode cX11_last 90 = .ok (.iinc 8 1, 3) := by decide +kernel
theorem dX11_last_93 : decode cX11_last 93 = .ok (.goto (-38), 3) := by decide +kernel
theorem dX11_last_80 : decode cX11_last 80 = .ok (.iload 8, 2) := by decide +kernel
theorem dX11_last_82 : decode cX11_last 82 = .ok (.ireturn, 1) := by decide +kernel
theorem dX11_least_0 : decode cX11_least 0 = .ok (.aload_n 0, 1) := by decide +kernel
theorem dX11_least_1 : decode cX11_least 1 = .ok (.getfield 12, 3) := by decide +kernel
theorem dX11_least_4 : decode cX11_least 4 = .ok (.getfield 255, 3) := by decide +kernel
theorem dX11_least_7 : decode cX11_least 7 = .ok (.bipush 13, 2) := by decide +kernel
theorem dX11_least_9 : decode cX11_least 9 = .ok (.idiv, 1) := by decide +kernel
theorem dX11_least_10 : decode cX11_least 10 = .ok (.istore_n 3, 1) := by decide +kernel
theorem dX11_least_11 : decode cX11_least 11 = .ok (.iload_n 2, 1) := by decide +kernel
theorem dX11_least_12 : decode cX11_least 12 = .ok (.iload_n 3, 1) := by decide +kernel
theorem dX11_least_13 : decode cX11_least 13 = .ok (.iconst 1, 1) := by decide +kernel
theorem dX11_least_14 : decode cX11_least 14 = .ok (.iadd, 1) := by decide +kernel
theorem dX11_least_15 : decode cX11_least 15 = .ok (.iload_n 3, 1) := by decide +kernel
theorem dX11_least_16 : decode cX11_least 16 = .ok (.bipush 8, 2) := by decide +kernel
theorem dX11_least_18 : decode cX11_least 18 = .ok (.iadd, 1) := by decide +kernel
theorem dX11_least_19 : decode cX11_least 19 = .ok (.invokestatic 54, 3) := by decide +kernel
theorem dX11_least_22 : decode cX11_least 22 = .ok (.ifCond .eq 33, 3) := by decide +kernel
theorem dX11_least_55 : decode cX11_least 55 = .ok (.iconst (-1), 1) := by decide +kernel
theorem dX11_least_56 : decode cX11_least 56 = .ok (.ireturn, 1) := by decide +kernel
theorem dX11_least_25 : decode cX11_least 25 = .ok (.aload_n 0, 1) := by decide +kernel
theorem dX11_least_26 : decode cX11_least 26 = .ok (.getfield 12, 3) := by decide +kernel
theorem dX11_least_29 : decode cX11_least 29 = .ok (.getfield 114, 3) := by decide +kernel
theorem dX11_least_32 : decode cX11_least 32 = .ok (.iload_n 1, 1) := by decide +kernel
theorem dX11_least_33 : decode cX11_least 33 = .ok (.invokevirtual 127, 3) := by decide +kernel
theorem dX11_least_36 : decode cX11_least 36 = .ok (.ifCond .eq 19, 3) := by decide +kernel
theorem dX11_least_39 : decode cX11_least 39 = .ok (.aload_n 0, 1) := by decide +kernel
theorem dX11_least_40 : decode cX11_least 40 = .ok (.getfield 12, 3) := by decide +kernel
theorem dX11_least_43 : decode cX11_least 43 = .ok (.getfield 114, 3) := by decide +kernel
theorem dX11_least_46 : decode cX11_least 46 = .ok (.getfield 188, 3) := by decide +kernel
theorem dX11_least_49 : decode cX11_least 49 = .ok (.iload_n 1, 1) := by decide +kernel
theorem dX11_least_50 : decode cX11_least 50 = .ok (.iaload, 1) := by decide +kernel
theorem dX11_least_51 : decode cX11_least 51 = .ok (.iconst (-1), 1) := by decide +kernel
theorem dX11_least_52 : decode cX11_least 52 = .ok (.if_icmp .eq 5, 3) := by decide +kernel
theorem dX11_least_57 : decode cX11_least 57 = .ok (.aload_n 0, 1) := by decide +kernel
theorem dX11_least_58 : decode cX11_least 58 = .ok (.getfield 12, 3) := by decide +kernel
theorem dX11_least_61 : decode cX11_least 61 = .ok (.invokevirtual 151, 3) := by decide +kernel
theorem dX11_least_64 : decode cX11_least 64 = .ok (.aload_n 0, 1) := by decide +kernel
theorem dX11_least_65 : decode cX11_least 65 = .ok (.getfield 12, 3) := by decide +kernel
theorem dX11_least_68 : decode cX11_least 68 = .ok (.iload_n 1, 1) := by decide +kernel
theorem dX11_least_69 : decode cX11_least 69 = .ok (.iload_n 2, 1) := by decide +kernel
theorem dX11_least_70 : decode cX11_least 70 = .ok (.iload_n 3, 1) := by decide +kernel
theorem dX11_least_71 : decode cX11_least 71 = .ok (.isub, 1) := by decide +kernel
theorem dX11_least_72 : decode cX11_least 72 = .ok (.invokevirtual 294, 3) := by decide +kernel
theorem dX11_least_75 : decode cX11_least 75 = .ok (.ireturn, 1) := by decide +kernel
theorem dX11_of_0 : decode cX11_of 0 = .ok (.aload_n 0, 1) := by decide +kernel
theorem dX11_of_1 : decode cX11_of 1 = .ok (.getfield 12, 3) := by decide +kernel
theorem dX11_of_4 : decode cX11_of 4 = .ok (.getfield 63, 3) := by decide +kernel
theorem dX11_of_7 : decode cX11_of 7 = .ok (.astore_n 3, 1) := by decide +kernel
theorem dX11_of_8 : decode cX11_of 8 = .ok (.aload_n 3, 1) := by decide +kernel
theorem dX11_of_9 : decode cX11_of 9 = .ok (.iload_n 1, 1) := by decide +kernel
theorem dX11_of_10 : decode cX11_of 10 = .ok (.invokevirtual 80, 3) := by decide +kernel
theorem dX11_of_13 : decode cX11_of 13 = .ok (.ifCond .ne 5, 3) := by decide +kernel
theorem dX11_of_18 : decode cX11_of 18 = .ok (.iload_n 2, 1) := by decide +kernel
theorem dX11_of_19 : decode cX11_of 19 = .ok (.tableswitch 78 0 5 #[37, 44, 51, 58, 65, 72], 37) := by decide +kernel
theorem dX11_of_56 : decode cX11_of 56 = .ok (.aload_n 3, 1) := by decide +kernel
theorem dX11_of_57 : decode cX11_of 57 = .ok (.getfield 87, 3) := by decide +kernel
theorem dX11_of_60 : decode cX11_of 60 = .ok (.iload_n 1, 1) := by decide +kernel
theorem dX11_of_61 : decode cX11_of 61 = .ok (.iaload, 1) := by decide +kernel
theorem dX11_of_62 : decode cX11_of 62 = .ok (.ireturn, 1) := by decide +kernel
theorem dX11_of_63 : decode cX11_of 63 = .ok (.aload_n 3, 1) := by decide +kernel
theorem dX11_of_64 : decode cX11_of 64 = .ok (.getfield 94, 3) := by decide +kernel
theorem dX11_of_67 : decode cX11_of 67 = .ok (.iload_n 1, 1) := by decide +kernel
theorem dX11_of_68 : decode cX11_of 68 = .ok (.iaload, 1) := by decide +kernel
theorem dX11_of_69 : decode cX11_of 69 = .ok (.ireturn, 1) := by decide +kernel
theorem dX11_of_70 : decode cX11_of 70 = .ok (.aload_n 3, 1) := by decide +kernel
theorem dX11_of_71 : decode cX11_of 71 = .ok (.getfield 138, 3) := by decide +kernel
theorem dX11_of_74 : decode cX11_of 74 = .ok (.iload_n 1, 1) := by decide +kernel
theorem dX11_of_75 : decode cX11_of 75 = .ok (.iaload, 1) := by decide +kernel
theorem dX11_of_76 : decode cX11_of 76 = .ok (.ireturn, 1) := by decide +kernel
theorem dX11_of_77 : decode cX11_of 77 = .ok (.aload_n 3, 1) := by decide +kernel
theorem dX11_of_78 : decode cX11_of 78 = .ok (.getfield 141, 3) := by decide +kernel
theorem dX11_of_81 : decode cX11_of 81 = .ok (.iload_n 1, 1) := by decide +kernel
theorem dX11_of_82 : decode cX11_of 82 = .ok (.iaload, 1) := by decide +kernel
theorem dX11_of_83 : decode cX11_of 83 = .ok (.ireturn, 1) := by decide +kernel
theorem dX11_of_84 : decode cX11_of 84 = .ok (.aload_n 3, 1) := by decide +kernel
theorem dX11_of_85 : decode cX11_of 85 = .ok (.getfield 144, 3) := by decide +kernel
theorem dX11_of_88 : decode cX11_of 88 = .ok (.iload_n 1, 1) := by decide +kernel
theorem dX11_of_89 : decode cX11_of 89 = .ok (.iaload, 1) := by decide +kernel
theorem dX11_of_90 : decode cX11_of 90 = .ok (.ireturn, 1) := by decide +kernel
theorem dX11_of_91 : decode cX11_of 91 = .ok (.aload_n 3, 1) := by decide +kernel
theorem dX11_of_92 : decode cX11_of 92 = .ok (.iload_n 1, 1) := by decide +kernel
theorem dX11_of_93 : decode cX11_of 93 = .ok (.invokevirtual 147, 3) := by decide +kernel
theorem dX11_of_96 : decode cX11_of 96 = .ok (.ireturn, 1) := by decide +kernel
theorem dX11_of_97 : decode cX11_of 97 = .ok (.iconst (-1), 1) := by decide +kernel
theorem dX11_of_98 : decode cX11_of 98 = .ok (.ireturn, 1) := by decide +kernel
theorem dX11_of_16 : decode cX11_of 16 = .ok (.iconst (-1), 1) := by decide +kernel
theorem dX11_of_17 : decode cX11_of 17 = .ok (.ireturn, 1) := by decide +kernel
theorem dX11_offer_0 : decode cX11_offer 0 = .ok (.iload_n 1, 1) := by decide +kernel
theorem dX11_offer_1 : decode cX11_offer 1 = .ok (.sipush (-1000), 3) := by decide +kernel
theorem dX11_offer_4 : decode cX11_offer 4 = .ok (.sipush 1000, 3) := by decide +kernel
theorem dX11_offer_7 : decode cX11_offer 7 = .ok (.invokestatic 54, 3) := by decide +kernel
theorem dX11_offer_10 : decode cX11_offer 10 = .ok (.ifCond .eq 16, 3) := by decide +kernel
theorem dX11_offer_26 : decode cX11_offer 26 = .ok (.aload_n 0, 1) := by decide +kernel
theorem dX11_offer_27 : decode cX11_offer 27 = .ok (.iconst (-1), 1) := by decide +kernel
theorem dX11_offer_28 : decode cX11_offer 28 = .ok (.invokevirtual 59, 3) := by decide +kernel
theorem dX11_offer_31 : decode cX11_offer 31 = .ok (.ireturn, 1) := by decide +kernel
theorem dX11_offer_13 : decode cX11_offer 13 = .ok (.iload_n 2, 1) := by decide +kernel
theorem dX11_offer_14 : decode cX11_offer 14 = .ok (.sipush (-1000), 3) := by decide +kernel
theorem dX11_offer_17 : decode cX11_offer 17 = .ok (.sipush 1000, 3) := by decide +kernel
theorem dX11_offer_20 : decode cX11_offer 20 = .ok (.invokestatic 54, 3) := by decide +kernel
theorem dX11_offer_23 : decode cX11_offer 23 = .ok (.ifCond .ne 9, 3) := by decide +kernel
theorem dX11_offer_32 : decode cX11_offer 32 = .ok (.aload_n 0, 1) := by decide +kernel
theorem dX11_offer_33 : decode cX11_offer 33 = .ok (.getfield 12, 3) := by decide +kernel
theorem dX11_offer_36 : decode cX11_offer 36 = .ok (.getfield 98, 3) := by decide +kernel
theorem dX11_offer_39 : decode cX11_offer 39 = .ok (.getfield 297, 3) := by decide +kernel
theorem dX11_offer_42 : decode cX11_offer 42 = .ok (.bipush 9, 2) := by decide +kernel
theorem dX11_offer_44 : decode cX11_offer 44 = .ok (.if_icmp .lt 10, 3) := by decide +kernel
theorem dX11_offer_54 : decode cX11_offer 54 = .ok (.aload_n 0, 1) := by decide +kernel
theorem dX11_offer_55 : decode cX11_offer 55 = .ok (.aload_n 0, 1) := by decide +kernel
theorem dX11_offer_56 : decode cX11_offer 56 = .ok (.getfield 12, 3) := by decide +kernel
theorem dX11_offer_59 : decode cX11_offer 59 = .ok (.getfield 98, 3) := by decide +kernel
theorem dX11_offer_62 : decode cX11_offer 62 = .ok (.iload_n 1, 1) := by decide +kernel
theorem dX11_offer_63 : decode cX11_offer 63 = .ok (.iload_n 2, 1) := by decide +kernel
theorem dX11_offer_64 : decode cX11_offer 64 = .ok (.invokevirtual 300, 3) := by decide +kernel
theorem dX11_offer_67 : decode cX11_offer 67 = .ok (.invokevirtual 77, 3) := by decide +kernel
theorem dX11_offer_70 : decode cX11_offer 70 = .ok (.ireturn, 1) := by decide +kernel
theorem dX11_offer_47 : decode cX11_offer 47 = .ok (.aload_n 0, 1) := by decide +kernel
theorem dX11_offer_48 : decode cX11_offer 48 = .ok (.bipush (-5), 2) := by decide +kernel
theorem dX11_offer_50 : decode cX11_offer 50 = .ok (.invokevirtual 59, 3) := by decide +kernel
theorem dX11_offer_53 : decode cX11_offer 53 = .ok (.ireturn, 1) := by decide +kernel
theorem dX11_owner_0 : decode cX11_owner 0 = .ok (.aload_n 0, 1) := by decide +kernel
theorem dX11_owner_1 : decode cX11_owner 1 = .ok (.getfield 12, 3) := by decide +kernel
theorem dX11_owner_4 : decode cX11_owner 4 = .ok (.getfield 114, 3) := by decide +kernel
theorem dX11_owner_7 : decode cX11_owner 7 = .ok (.astore_n 3, 1) := by decide +kernel
theorem dX11_owner_8 : decode cX11_owner 8 = .ok (.aload_n 3, 1) := by decide +kernel
theorem dX11_owner_9 : decode cX11_owner 9 = .ok (.iload_n 1, 1) := by decide +kernel
theorem dX11_owner_10 : decode cX11_owner 10 = .ok (.invokevirtual 127, 3) := by decide +kernel
theorem dX11_owner_13 : decode cX11_owner 13 = .ok (.ifCond .ne 5, 3) := by decide +kernel
theorem dX11_owner_18 : decode cX11_owner 18 = .ok (.iload_n 2, 1) := by decide +kernel
theorem dX11_owner_19 : decode cX11_owner 19 = .ok (.lookupswitch 39 #[(0, 25), (1, 32)], 25) := by decide +kernel
theorem dX11_owner_44 : decode cX11_owner 44 = .ok (.aload_n 3, 1) := by decide +kernel
theorem dX11_owner_45 : decode cX11_owner 45 = .ok (.getfield 185, 3) := by decide +kernel
theorem dX11_owner_48 : decode cX11_owner 48 = .ok (.iload_n 1, 1) := by decide +kernel
theorem dX11_owner_49 : decode cX11_owner 49 = .ok (.iaload, 1) := by decide +kernel
theorem dX11_owner_50 : decode cX11_owner 50 = .ok (.ireturn, 1) := by decide +kernel
theorem dX11_owner_51 : decode cX11_owner 51 = .ok (.aload_n 3, 1) := by decide +kernel
theorem dX11_owner_52 : decode cX11_owner 52 = .ok (.getfield 188, 3) := by decide +kernel
theorem dX11_owner_55 : decode cX11_owner 55 = .ok (.iload_n 1, 1) := by decide +kernel
theorem dX11_owner_56 : decode cX11_owner 56 = .ok (.iaload, 1) := by decide +kernel
theorem dX11_owner_57 : decode cX11_owner 57 = .ok (.ireturn, 1) := by decide +kernel
theorem dX11_owner_58 : decode cX11_owner 58 = .ok (.iconst (-1), 1) := by decide +kernel
theorem dX11_owner_59 : decode cX11_owner 59 = .ok (.ireturn, 1) := by decide +kernel
theorem dX11_owner_16 : decode cX11_owner 16 = .ok (.iconst (-1), 1) := by decide +kernel
theorem dX11_owner_17 : decode cX11_owner 17 = .ok (.ireturn, 1) := by decide +kernel
theorem dX11_person_0 : decode cX11_person 0 = .ok (.iload_n 1, 1) := by decide +kernel
theorem dX11_person_1 : decode cX11_person 1 = .ok (.iconst 0, 1) := by decide +kernel
theorem dX11_person_2 : decode cX11_person 2 = .ok (.bipush 19, 2) := by decide +kernel
theorem dX11_person_4 : decode cX11_person 4 = .ok (.invokestatic 54, 3) := by decide +kernel
theorem dX11_person_7 : decode cX11_person 7 = .ok (.ifCond .eq 23, 3) := by decide +kernel
theorem dX11_person_30 : decode cX11_person 30 = .ok (.aload_n 0, 1) := by decide +kernel
theorem dX11_person_31 : decode cX11_person 31 = .ok (.iconst (-1), 1) := by decide +kernel
theorem dX11_person_32 : decode cX11_person 32 = .ok (.invokevirtual 59, 3) := by decide +kernel
theorem dX11_person_35 : decode cX11_person 35 = .ok (.ireturn, 1) := by decide +kernel
theorem dX11_person_10 : decode cX11_person 10 = .ok (.iload_n 2, 1) := by decide +kernel
theorem dX11_person_11 : decode cX11_person 11 = .ok (.iconst 0, 1) := by decide +kernel
theorem dX11_person_12 : decode cX11_person 12 = .ok (.ldc 58, 2) := by decide +kernel
theorem dX11_person_14 : decode cX11_person 14 = .ok (.invokestatic 54, 3) := by decide +kernel
theorem dX11_person_17 : decode cX11_person 17 = .ok (.ifCond .eq 13, 3) := by decide +kernel
theorem dX11_person_20 : decode cX11_person 20 = .ok (.iload_n 3, 1) := by decide +kernel
theorem dX11_person_21 : decode cX11_person 21 = .ok (.iconst 0, 1) := by decide +kernel
theorem dX11_person_22 : decode cX11_person 22 = .ok (.bipush 100, 2) := by decide +kernel
theorem dX11_person_24 : decode cX11_person 24 = .ok (.invokestatic 54, 3) := by decide +kernel
theorem dX11_person_27 : decode cX11_person 27 = .ok (.ifCond .ne 9, 3) := by decide +kernel
theorem dX11_person_36 : decode cX11_person 36 = .ok (.aload_n 0, 1) := by decide +kernel
theorem dX11_person_37 : decode cX11_person 37 = .ok (.getfield 12, 3) := by decide +kernel
theorem dX11_person_40 : decode cX11_person 40 = .ok (.getfield 63, 3) := by decide +kernel
theorem dX11_person_43 : decode cX11_person 43 = .ok (.getfield 67, 3) := by decide +kernel
theorem dX11_person_46 : decode cX11_person 46 = .ok (.bipush 40, 2) := by decide +kernel
theorem dX11_person_48 : decode cX11_person 48 = .ok (.if_icmp .lt 10, 3) := by decide +kernel
theorem dX11_person_58 : decode cX11_person 58 = .ok (.aload_n 0, 1) := by decide +kernel
theorem dX11_person_59 : decode cX11_person 59 = .ok (.aload_n 0, 1) := by decide +kernel
theorem dX11_person_60 : decode cX11_person 60 = .ok (.getfield 12, 3) := by decide +kernel
theorem dX11_person_63 : decode cX11_person 63 = .ok (.getfield 63, 3) := by decide +kernel
theorem dX11_person_66 : decode cX11_person 66 = .ok (.iload_n 1, 1) := by decide +kernel
theorem dX11_person_67 : decode cX11_person 67 = .ok (.iload_n 2, 1) := by decide +kernel
theorem dX11_person_68 : decode cX11_person 68 = .ok (.iload_n 3, 1) := by decide +kernel
theorem dX11_person_69 : decode cX11_person 69 = .ok (.invokevirtual 73, 3) := by decide +kernel
theorem dX11_person_72 : decode cX11_person 72 = .ok (.invokevirtual 77, 3) := by decide +kernel
theorem dX11_person_75 : decode cX11_person 75 = .ok (.ireturn, 1) := by decide +kernel
theorem dX11_person_51 : decode cX11_person 51 = .ok (.aload_n 0, 1) := by decide +kernel
theorem dX11_person_52 : decode cX11_person 52 = .ok (.bipush (-5), 2) := by decide +kernel
theorem dX11_person_54 : decode cX11_person 54 = .ok (.invokevirtual 59, 3) := by decide +kernel
theorem dX11_person_57 : decode cX11_person 57 = .ok (.ireturn, 1) := by decide +kernel
theorem dX11_price_0 : decode cX11_price 0 = .ok (.iload_n 1, 1) := by decide +kernel
theorem dX11_price_1 : decode cX11_price 1 = .ok (.invokestatic 191, 3) := by decide +kernel
theorem dX11_price_4 : decode cX11_price 4 = .ok (.ifCond .eq 14, 3) := by decide +kernel
theorem dX11_price_18 : decode cX11_price 18 = .ok (.aload_n 0, 1) := by decide +kernel
theorem dX11_price_19 : decode cX11_price 19 = .ok (.iconst (-1), 1) := by decide +kernel
theorem dX11_price_20 : decode cX11_price 20 = .ok (.invokevirtual 59, 3) := by decide +kernel
theorem dX11_price_23 : decode cX11_price 23 = .ok (.ireturn, 1) := by decide +kernel
theorem dX11_price_7 : decode cX11_price 7 = .ok (.iload_n 2, 1) := by decide +kernel
theorem dX11_price_8 : decode cX11_price 8 = .ok (.iconst 0, 1) := by decide +kernel
theorem dX11_price_9 : decode cX11_price 9 = .ok (.sipush 10000, 3) := by decide +kernel
theorem dX11_price_12 : decode cX11_price 12 = .ok (.invokestatic 54, 3) := by decide +kernel
theorem dX11_price_15 : decode cX11_price 15 = .ok (.ifCond .ne 9, 3) := by decide +kernel
theorem dX11_price_24 : decode cX11_price 24 = .ok (.aload_n 0, 1) := by decide +kernel
theorem dX11_price_25 : decode cX11_price 25 = .ok (.getfield 12, 3) := by decide +kernel
theorem dX11_price_28 : decode cX11_price 28 = .ok (.getfield 194, 3) := by decide +kernel
theorem dX11_price_31 : decode cX11_price 31 = .ok (.getfield 198, 3) := by decide +kernel
theorem dX11_price_34 : decode cX11_price 34 = .ok (.iload_n 1, 1) := by decide +kernel
theorem dX11_price_35 : decode cX11_price 35 = .ok (.iload_n 2, 1) := by decide +kernel
theorem dX11_price_36 : decode cX11_price 36 = .ok (.iastore, 1) := by decide +kernel
theorem dX11_price_37 : decode cX11_price 37 = .ok (.aload_n 0, 1) := by decide +kernel
theorem dX11_price_38 : decode cX11_price 38 = .ok (.iconst 0, 1) := by decide +kernel
theorem dX11_price_39 : decode cX11_price 39 = .ok (.invokevirtual 77, 3) := by decide +kernel
theorem dX11_price_42 : decode cX11_price 42 = .ok (.ireturn, 1) := by decide +kernel
theorem dX11_row_0 : decode cX11_row 0 = .ok (.aload_n 0, 1) := by decide +kernel
theorem dX11_row_1 : decode cX11_row 1 = .ok (.iload_n 1, 1) := by decide +kernel
theorem dX11_row_2 : decode cX11_row 2 = .ok (.iload_n 2, 1) := by decide +kernel
theorem dX11_row_3 : decode cX11_row 3 = .ok (.invokevirtual 203, 3) := by decide +kernel
theorem dX11_whyNoRow_0 : decode cX11_whyNoRow 0 = .ok (.iload_n 1, 1) := by decide +kernel
theorem dX11_whyNoRow_1 : decode cX11_whyNoRow 1 = .ok (.invokestatic 191, 3) := by decide +kernel
theorem dX11_whyNoRow_4 : decode cX11_whyNoRow 4 = .ok (.ifCond .ne 5, 3) := by decide +kernel
theorem dX11_whyNoRow_9 : decode cX11_whyNoRow 9 = .ok (.aload_n 0, 1) := by decide +kernel
theorem dX11_whyNoRow_10 : decode cX11_whyNoRow 10 = .ok (.getfield 12, 3) := by decide +kernel
theorem dX11_whyNoRow_13 : decode cX11_whyNoRow 13 = .ok (.getfield 114, 3) := by decide +kernel
theorem dX11_whyNoRow_16 : decode cX11_whyNoRow 16 = .ok (.iload_n 2, 1) := by decide +kernel
theorem dX11_whyNoRow_17 : decode cX11_whyNoRow 17 = .ok (.invokevirtual 150, 3) := by decide +kernel
theorem dX11_whyNoRow_20 : decode cX11_whyNoRow 20 = .ok (.ifCond .ne 6, 3) := by decide +kernel
theorem dX11_whyNoRow_26 : decode cX11_whyNoRow 26 = .ok (.iload_n 1, 1) := by decide +kernel
theorem dX11_whyNoRow_27 : decode cX11_whyNoRow 27 = .ok (.aload_n 0, 1) := by decide +kernel
theorem dX11_whyNoRow_28 : decode cX11_whyNoRow 28 = .ok (.getfield 12, 3) := by decide +kernel
theorem dX11_whyNoRow_31 : decode cX11_whyNoRow 31 = .ok (.getfield 255, 3) := by decide +kernel
theorem dX11_whyNoRow_34 : decode cX11_whyNoRow 34 = .ok (.if_icmp .ge 6, 3) := by decide +kernel
theorem dX11_whyNoRow_40 : decode cX11_whyNoRow 40 = .ok (.aload_n 0, 1) := by decide +kernel
theorem dX11_whyNoRow_41 : decode cX11_whyNoRow 41 = .ok (.getfield 12, 3) := by decide +kernel
theorem dX11_whyNoRow_44 : decode cX11_whyNoRow 44 = .ok (.getfield 194, 3) := by decide +kernel
theorem dX11_whyNoRow_47 : decode cX11_whyNoRow 47 = .ok (.getfield 359, 3) := by decide +kernel
theorem dX11_whyNoRow_50 : decode cX11_whyNoRow 50 = .ok (.iload_n 1, 1) := by decide +kernel
theorem dX11_whyNoRow_51 : decode cX11_whyNoRow 51 = .ok (.aaload, 1) := by decide +kernel
theorem dX11_whyNoRow_52 : decode cX11_whyNoRow 52 = .ok (.ifnull 6, 3) := by decide +kernel
theorem dX11_whyNoRow_58 : decode cX11_whyNoRow 58 = .ok (.aload_n 0, 1) := by decide +kernel
theorem dX11_whyNoRow_59 : decode cX11_whyNoRow 59 = .ok (.getfield 30, 3) := by decide +kernel
theorem dX11_whyNoRow_62 : decode cX11_whyNoRow 62 = .ok (.invokevirtual 363, 3) := by decide +kernel
theorem dX8_floats_0 : decode cX8_floats 0 = .ok (.aload_n 0, 1) := by decide +kernel
theorem dX8_floats_1 : decode cX8_floats 1 = .ok (.getfield 19, 3) := by decide +kernel
theorem dX8_floats_4 : decode cX8_floats 4 = .ok (.iconst 3, 1) := by decide +kernel
theorem dX8_floats_5 : decode cX8_floats 5 = .ok (.iadd, 1) := by decide +kernel
theorem dX8_floats_6 : decode cX8_floats 6 = .ok (.iconst 4, 1) := by decide +kernel
theorem dX8_floats_7 : decode cX8_floats 7 = .ok (.idiv, 1) := by decide +kernel
theorem dX8_floats_8 : decode cX8_floats 8 = .ok (.ireturn, 1) := by decide +kernel
theorem dX11_whyNoRow_65 : decode cX11_whyNoRow 65 = .ok (.istore_n 3, 1) := by decide +kernel
theorem dX11_whyNoRow_66 : decode cX11_whyNoRow 66 = .ok (.iload_n 3, 1) := by decide +kernel
theorem dX11_whyNoRow_67 : decode cX11_whyNoRow 67 = .ok (.ifCond .eq 19, 3) := by decide +kernel
theorem dX11_whyNoRow_92 : decode cX11_whyNoRow 92 = .ok (.ireturn, 1) := by decide +kernel
theorem dX11_whyNoRow_86 : decode cX11_whyNoRow 86 = .ok (.bipush (-6), 2) := by decide +kernel
theorem dX11_whyNoRow_88 : decode cX11_whyNoRow 88 = .ok (.goto 4, 3) := by decide +kernel
theorem dX11_whyNoRow_70 : decode cX11_whyNoRow 70 = .ok (.iload_n 3, 1) := by decide +kernel
theorem dX11_whyNoRow_71 : decode cX11_whyNoRow 71 = .ok (.aload_n 0, 1) := by decide +kernel
theorem dX11_whyNoRow_72 : decode cX11_whyNoRow 72 = .ok (.getfield 12, 3) := by decide +kernel
theorem dX11_whyNoRow_75 : decode cX11_whyNoRow 75 = .ok (.getfield 114, 3) := by decide +kernel
theorem dX11_whyNoRow_78 : decode cX11_whyNoRow 78 = .ok (.getfield 130, 3) := by decide +kernel
theorem dX11_whyNoRow_81 : decode cX11_whyNoRow 81 = .ok (.iload_n 2, 1) := by decide +kernel
theorem dX11_whyNoRow_82 : decode cX11_whyNoRow 82 = .ok (.isub, 1) := by decide +kernel
theorem dX11_whyNoRow_83 : decode cX11_whyNoRow 83 = .ok (.if_icmp .le 8, 3) := by decide +kernel
theorem dX11_whyNoRow_91 : decode cX11_whyNoRow 91 = .ok (.iconst 0, 1) := by decide +kernel
theorem dX11_whyNoRow_55 : decode cX11_whyNoRow 55 = .ok (.bipush (-4), 2) := by decide +kernel
theorem dX11_whyNoRow_57 : decode cX11_whyNoRow 57 = .ok (.ireturn, 1) := by decide +kernel
theorem dX11_whyNoRow_37 : decode cX11_whyNoRow 37 = .ok (.bipush (-3), 2) := by decide +kernel
theorem dX11_whyNoRow_39 : decode cX11_whyNoRow 39 = .ok (.ireturn, 1) := by decide +kernel
theorem dX11_whyNoRow_23 : decode cX11_whyNoRow 23 = .ok (.bipush (-2), 2) := by decide +kernel
theorem dX11_whyNoRow_25 : decode cX11_whyNoRow 25 = .ok (.ireturn, 1) := by decide +kernel
theorem dX11_whyNoRow_7 : decode cX11_whyNoRow 7 = .ok (.iconst (-1), 1) := by decide +kernel
theorem dX11_whyNoRow_8 : decode cX11_whyNoRow 8 = .ok (.ireturn, 1) := by decide +kernel
theorem dX11_row_6 : decode cX11_row 6 = .ok (.istore_n 3, 1) := by decide +kernel
theorem dX11_row_7 : decode cX11_row 7 = .ok (.iload_n 3, 1) := by decide +kernel
theorem dX11_row_8 : decode cX11_row 8 = .ok (.ifCond .ne 12, 3) := by decide +kernel
theorem dX11_row_21 : decode cX11_row 21 = .ok (.istore 4, 2) := by decide +kernel
theorem dX11_row_23 : decode cX11_row 23 = .ok (.aload_n 0, 1) := by decide +kernel
theorem dX11_row_24 : decode cX11_row 24 = .ok (.getfield 30, 3) := by decide +kernel
theorem dX11_row_27 : decode cX11_row 27 = .ok (.iconst 0, 1) := by decide +kernel
theorem dX11_row_28 : decode cX11_row 28 = .ok (.putfield 209, 3) := by decide +kernel
theorem dX11_row_31 : decode cX11_row 31 = .ok (.iload_n 3, 1) := by decide +kernel
theorem dX11_row_32 : decode cX11_row 32 = .ok (.ifCond .ne 12, 3) := by decide +kernel
theorem dX11_row_49 : decode cX11_row 49 = .ok (.ireturn, 1) := by decide +kernel
theorem dX11_row_44 : decode cX11_row 44 = .ok (.aload_n 0, 1) := by decide +kernel
theorem dX11_row_45 : decode cX11_row 45 = .ok (.iload_n 3, 1) := by decide +kernel
theorem dX11_row_46 : decode cX11_row 46 = .ok (.invokevirtual 59, 3) := by decide +kernel
theorem dX11_row_35 : decode cX11_row 35 = .ok (.aload_n 0, 1) := by decide +kernel
theorem dX11_row_36 : decode cX11_row 36 = .ok (.iload 4, 2) := by decide +kernel
theorem dX11_row_38 : decode cX11_row 38 = .ok (.invokevirtual 77, 3) := by decide +kernel
theorem dX11_row_41 : decode cX11_row 41 = .ok (.goto 8, 3) := by decide +kernel
theorem dX11_row_20 : decode cX11_row 20 = .ok (.iconst 0, 1) := by decide +kernel
theorem dX11_row_11 : decode cX11_row 11 = .ok (.aload_n 0, 1) := by decide +kernel
theorem dX11_row_12 : decode cX11_row 12 = .ok (.iload_n 1, 1) := by decide +kernel
theorem dX11_row_13 : decode cX11_row 13 = .ok (.iload_n 2, 1) := by decide +kernel
theorem dX11_row_14 : decode cX11_row 14 = .ok (.invokevirtual 206, 3) := by decide +kernel
theorem dX11_seal_0 : decode cX11_seal 0 = .ok (.aload_n 0, 1) := by decide +kernel
theorem dX11_seal_1 : decode cX11_seal 1 = .ok (.getfield 12, 3) := by decide +kernel
theorem dX11_seal_4 : decode cX11_seal 4 = .ok (.getfield 114, 3) := by decide +kernel
theorem dX11_seal_7 : decode cX11_seal 7 = .ok (.invokevirtual 338, 3) := by decide +kernel
theorem dX11_seal_10 : decode cX11_seal 10 = .ok (.aload_n 0, 1) := by decide +kernel
theorem dX11_seal_11 : decode cX11_seal 11 = .ok (.getfield 12, 3) := by decide +kernel
theorem dX11_seal_14 : decode cX11_seal 14 = .ok (.getfield 114, 3) := by decide +kernel
theorem dX11_seal_17 : decode cX11_seal 17 = .ok (.getfield 130, 3) := by decide +kernel
theorem dX11_seal_20 : decode cX11_seal 20 = .ok (.ireturn, 1) := by decide +kernel
theorem dX11_status_0 : decode cX11_status 0 = .ok (.aload_n 0, 1) := by decide +kernel
theorem dX11_status_1 : decode cX11_status 1 = .ok (.getfield 356, 3) := by decide +kernel
theorem dX11_status_4 : decode cX11_status 4 = .ok (.ireturn, 1) := by decide +kernel
theorem dX11_take_0 : decode cX11_take 0 = .ok (.aload_n 0, 1) := by decide +kernel
theorem dX11_take_1 : decode cX11_take 1 = .ok (.getfield 12, 3) := by decide +kernel
theorem dX11_take_4 : decode cX11_take 4 = .ok (.getfield 114, 3) := by decide +kernel
theorem dX11_take_7 : decode cX11_take 7 = .ok (.astore 4, 2) := by decide +kernel
theorem dX11_take_9 : decode cX11_take 9 = .ok (.iload_n 3, 1) := by decide +kernel
theorem dX11_take_10 : decode cX11_take 10 = .ok (.iconst 0, 1) := by decide +kernel
theorem dX11_take_11 : decode cX11_take 11 = .ok (.iconst 1, 1) := by decide +kernel
theorem dX11_take_12 : decode cX11_take 12 = .ok (.invokestatic 54, 3) := by decide +kernel
theorem dX11_take_15 : decode cX11_take 15 = .ok (.ifCond .ne 9, 3) := by decide +kernel
theorem dX11_take_24 : decode cX11_take 24 = .ok (.aload_n 0, 1) := by decide +kernel
theorem dX11_take_25 : decode cX11_take 25 = .ok (.getfield 12, 3) := by decide +kernel
theorem dX11_take_28 : decode cX11_take 28 = .ok (.getfield 63, 3) := by decide +kernel
theorem dX11_take_31 : decode cX11_take 31 = .ok (.iload_n 1, 1) := by decide +kernel
theorem dX11_take_32 : decode cX11_take 32 = .ok (.invokevirtual 80, 3) := by decide +kernel
theorem dX11_take_35 : decode cX11_take 35 = .ok (.ifCond .eq 12, 3) := by decide +kernel
theorem dX11_take_47 : decode cX11_take 47 = .ok (.aload_n 0, 1) := by decide +kernel
theorem dX11_take_48 : decode cX11_take 48 = .ok (.bipush (-2), 2) := by decide +kernel
theorem dX11_take_50 : decode cX11_take 50 = .ok (.invokevirtual 59, 3) := by decide +kernel
theorem dX11_take_53 : decode cX11_take 53 = .ok (.ireturn, 1) := by decide +kernel
theorem dX11_take_38 : decode cX11_take 38 = .ok (.aload 4, 2) := by decide +kernel
theorem dX11_take_40 : decode cX11_take 40 = .ok (.iload_n 2, 1) := by decide +kernel
theorem dX11_take_41 : decode cX11_take 41 = .ok (.invokevirtual 150, 3) := by decide +kernel
theorem dX11_take_44 : decode cX11_take 44 = .ok (.ifCond .ne 10, 3) := by decide +kernel
theorem dX11_take_54 : decode cX11_take 54 = .ok (.iload_n 3, 1) := by decide +kernel
theorem dX11_take_55 : decode cX11_take 55 = .ok (.ifCond .ne 7, 3) := by decide +kernel
theorem dX11_take_63 : decode cX11_take 63 = .ok (.istore 5, 2) := by decide +kernel
theorem dX11_take_65 : decode cX11_take 65 = .ok (.aload 4, 2) := by decide +kernel
theorem dX11_take_67 : decode cX11_take 67 = .ok (.getfield 182, 3) := by decide +kernel
theorem dX11_take_70 : decode cX11_take 70 = .ok (.iload_n 2, 1) := by decide +kernel
theorem dX11_take_71 : decode cX11_take 71 = .ok (.iaload, 1) := by decide +kernel
theorem dX11_take_72 : decode cX11_take 72 = .ok (.iconst 1, 1) := by decide +kernel
theorem dX11_take_73 : decode cX11_take 73 = .ok (.if_icmp .ne 7, 3) := by decide +kernel
theorem dX11_take_81 : decode cX11_take 81 = .ok (.istore 6, 2) := by decide +kernel
theorem dX11_take_83 : decode cX11_take 83 = .ok (.aload_n 0, 1) := by decide +kernel
theorem dX11_take_84 : decode cX11_take 84 = .ok (.getfield 12, 3) := by decide +kernel
theorem dX11_take_87 : decode cX11_take 87 = .ok (.getfield 63, 3) := by decide +kernel
theorem dX11_take_90 : decode cX11_take 90 = .ok (.getfield 87, 3) := by decide +kernel
theorem dX11_take_93 : decode cX11_take 93 = .ok (.iload_n 1, 1) := by decide +kernel
theorem dX11_take_94 : decode cX11_take 94 = .ok (.iaload, 1) := by decide +kernel
theorem dX11_take_95 : decode cX11_take 95 = .ok (.ifCond .ne 21, 3) := by decide +kernel
theorem dX11_take_116 : decode cX11_take 116 = .ok (.aload_n 0, 1) := by decide +kernel
theorem dX11_take_117 : decode cX11_take 117 = .ok (.bipush (-3), 2) := by decide +kernel
theorem dX11_take_119 : decode cX11_take 119 = .ok (.invokevirtual 59, 3) := by decide +kernel
theorem dX11_take_122 : decode cX11_take 122 = .ok (.ireturn, 1) := by decide +kernel
theorem dX11_take_98 : decode cX11_take 98 = .ok (.aload 4, 2) := by decide +kernel
theorem dX11_take_100 : decode cX11_take 100 = .ok (.getfield 154, 3) := by decide +kernel
theorem dX11_take_103 : decode cX11_take 103 = .ok (.iload_n 2, 1) := by decide +kernel
theorem dX11_take_104 : decode cX11_take 104 = .ok (.iaload, 1) := by decide +kernel
theorem dX11_take_105 : decode cX11_take 105 = .ok (.iconst (-1), 1) := by decide +kernel
theorem dX11_take_106 : decode cX11_take 106 = .ok (.if_icmp .ne 10, 3) := by decide +kernel
theorem dX11_take_109 : decode cX11_take 109 = .ok (.iload 5, 2) := by decide +kernel
theorem dX11_take_111 : decode cX11_take 111 = .ok (.iload 6, 2) := by decide +kernel
theorem dX11_take_113 : decode cX11_take 113 = .ok (.if_icmp .eq 10, 3) := by decide +kernel
theorem dX11_take_123 : decode cX11_take 123 = .ok (.aload_n 0, 1) := by decide +kernel
theorem dX11_take_124 : decode cX11_take 124 = .ok (.getfield 12, 3) := by decide +kernel
theorem dX11_take_127 : decode cX11_take 127 = .ok (.invokevirtual 151, 3) := by decide +kernel
theorem dX11_take_130 : decode cX11_take 130 = .ok (.iload 5, 2) := by decide +kernel
theorem dX11_take_132 : decode cX11_take 132 = .ok (.ifCond .eq 25, 3) := by decide +kernel
theorem dX11_take_157 : decode cX11_take 157 = .ok (.aload_n 0, 1) := by decide +kernel
theorem dX11_take_158 : decode cX11_take 158 = .ok (.getfield 12, 3) := by decide +kernel
theorem dX11_take_161 : decode cX11_take 161 = .ok (.iload_n 1, 1) := by decide +kernel
theorem dX11_take_162 : decode cX11_take 162 = .ok (.iload_n 2, 1) := by decide +kernel
theorem dX11_take_163 : decode cX11_take 163 = .ok (.iload 5, 2) := by decide +kernel
theorem dX11_take_165 : decode cX11_take 165 = .ok (.ifCond .eq 7, 3) := by decide +kernel
theorem dX11_take_172 : decode cX11_take 172 = .ok (.iconst 0, 1) := by decide +kernel
theorem dX11_take_173 : decode cX11_take 173 = .ok (.invokevirtual 134, 3) := by decide +kernel
theorem dX11_take_176 : decode cX11_take 176 = .ok (.aload_n 0, 1) := by decide +kernel
theorem dX11_take_177 : decode cX11_take 177 = .ok (.iconst 0, 1) := by decide +kernel
theorem dX11_take_178 : decode cX11_take 178 = .ok (.invokevirtual 77, 3) := by decide +kernel
theorem dX11_take_181 : decode cX11_take 181 = .ok (.ireturn, 1) := by decide +kernel
theorem dX11_take_135 : decode cX11_take 135 = .ok (.aload_n 0, 1) := by decide +kernel
theorem dX11_take_136 : decode cX11_take 136 = .ok (.getfield 12, 3) := by decide +kernel
theorem dX11_take_139 : decode cX11_take 139 = .ok (.sipush 264, 3) := by decide +kernel
theorem dX11_take_142 : decode cX11_take 142 = .ok (.iload_n 1, 1) := by decide +kernel
theorem dX11_take_143 : decode cX11_take 143 = .ok (.iload_n 2, 1) := by decide +kernel
theorem dX11_take_144 : decode cX11_take 144 = .ok (.invokevirtual 270, 3) := by decide +kernel
theorem dX11_take_147 : decode cX11_take 147 = .ok (.ifCond .ne 10, 3) := by decide +kernel
theorem dX11_take_168 : decode cX11_take 168 = .ok (.iconst 1, 1) := by decide +kernel
theorem dX11_take_169 : decode cX11_take 169 = .ok (.goto 4, 3) := by decide +kernel
theorem dX11_take_150 : decode cX11_take 150 = .ok (.aload_n 0, 1) := by decide +kernel
theorem dX11_take_151 : decode cX11_take 151 = .ok (.bipush (-3), 2) := by decide +kernel
theorem dX11_take_153 : decode cX11_take 153 = .ok (.invokevirtual 59, 3) := by decide +kernel
theorem dX11_take_156 : decode cX11_take 156 = .ok (.ireturn, 1) := by decide +kernel
theorem dX11_take_80 : decode cX11_take 80 = .ok (.iconst 0, 1) := by decide +kernel
theorem dX11_take_76 : decode cX11_take 76 = .ok (.iconst 1, 1) := by decide +kernel
theorem dX11_take_77 : decode cX11_take 77 = .ok (.goto 4, 3) := by decide +kernel
theorem dX11_take_62 : decode cX11_take 62 = .ok (.iconst 0, 1) := by decide +kernel
theorem dX11_take_58 : decode cX11_take 58 = .ok (.iconst 1, 1) := by decide +kernel
theorem dX11_take_59 : decode cX11_take 59 = .ok (.goto 4, 3) := by decide +kernel
theorem dX11_take_18 : decode cX11_take 18 = .ok (.aload_n 0, 1) := by decide +kernel
theorem dX11_take_19 : decode cX11_take 19 = .ok (.iconst (-1), 1) := by decide +kernel
theorem dX11_take_20 : decode cX11_take 20 = .ok (.invokevirtual 59, 3) := by decide +kernel
theorem dX11_take_23 : decode cX11_take 23 = .ok (.ireturn, 1) := by decide +kernel
theorem dX11_tells_0 : decode cX11_tells 0 = .ok (.aload_n 0, 1) := by decide +kernel
theorem dX11_tells_1 : decode cX11_tells 1 = .ok (.getfield 12, 3) := by decide +kernel
theorem dX11_tells_4 : decode cX11_tells 4 = .ok (.getfield 114, 3) := by decide +kernel
theorem dX11_tells_7 : decode cX11_tells 7 = .ok (.astore_n 3, 1) := by decide +kernel
theorem dX11_tells_8 : decode cX11_tells 8 = .ok (.aload_n 3, 1) := by decide +kernel
theorem dX11_tells_9 : decode cX11_tells 9 = .ok (.iload_n 1, 1) := by decide +kernel
theorem dX11_tells_10 : decode cX11_tells 10 = .ok (.invokevirtual 150, 3) := by decide +kernel
theorem dX11_tells_13 : decode cX11_tells 13 = .ok (.ifCond .ne 5, 3) := by decide +kernel
theorem dX11_tells_18 : decode cX11_tells 18 = .ok (.aload_n 0, 1) := by decide +kernel
theorem dX11_tells_19 : decode cX11_tells 19 = .ok (.getfield 12, 3) := by decide +kernel
theorem dX11_tells_22 : decode cX11_tells 22 = .ok (.invokevirtual 151, 3) := by decide +kernel
theorem dX11_tells_25 : decode cX11_tells 25 = .ok (.iload_n 2, 1) := by decide +kernel
theorem dX11_tells_26 : decode cX11_tells 26 = .ok (.tableswitch 144 0 7 #[46, 53, 60, 67, 90, 113, 125, 137], 46) := by decide +kernel
theorem dX11_tells_72 : decode cX11_tells 72 = .ok (.aload_n 3, 1) := by decide +kernel
theorem dX11_tells_73 : decode cX11_tells 73 = .ok (.getfield 154, 3) := by decide +kernel
theorem dX11_tells_76 : decode cX11_tells 76 = .ok (.iload_n 1, 1) := by decide +kernel
theorem dX11_tells_77 : decode cX11_tells 77 = .ok (.iaload, 1) := by decide +kernel
theorem dX11_tells_78 : decode cX11_tells 78 = .ok (.ireturn, 1) := by decide +kernel
theorem dX11_tells_79 : decode cX11_tells 79 = .ok (.aload_n 3, 1) := by decide +kernel
theorem dX11_tells_80 : decode cX11_tells 80 = .ok (.getfield 157, 3) := by decide +kernel
theorem dX11_tells_83 : decode cX11_tells 83 = .ok (.iload_n 1, 1) := by decide +kernel
theorem dX11_tells_84 : decode cX11_tells 84 = .ok (.iaload, 1) := by decide +kernel
theorem dX11_tells_85 : decode cX11_tells 85 = .ok (.ireturn, 1) := by decide +kernel
theorem dX11_tells_86 : decode cX11_tells 86 = .ok (.aload_n 3, 1) := by decide +kernel
theorem dX11_tells_87 : decode cX11_tells 87 = .ok (.getfield 160, 3) := by decide +kernel
theorem dX11_tells_90 : decode cX11_tells 90 = .ok (.iload_n 1, 1) := by decide +kernel
theorem dX11_tells_91 : decode cX11_tells 91 = .ok (.iaload, 1) := by decide +kernel
theorem dX11_tells_92 : decode cX11_tells 92 = .ok (.ireturn, 1) := by decide +kernel
theorem dX11_tells_93 : decode cX11_tells 93 = .ok (.aload_n 3, 1) := by decide +kernel
theorem dX11_tells_94 : decode cX11_tells 94 = .ok (.getfield 154, 3) := by decide +kernel
theorem dX11_tells_97 : decode cX11_tells 97 = .ok (.iload_n 1, 1) := by decide +kernel
theorem dX11_tells_98 : decode cX11_tells 98 = .ok (.iaload, 1) := by decide +kernel
theorem dX11_tells_99 : decode cX11_tells 99 = .ok (.iconst (-1), 1) := by decide +kernel
theorem dX11_tells_100 : decode cX11_tells 100 = .ok (.if_icmp .ne 7, 3) := by decide +kernel
theorem dX11_tells_115 : decode cX11_tells 115 = .ok (.ireturn, 1) := by decide +kernel
theorem dX11_tells_107 : decode cX11_tells 107 = .ok (.aload_n 0, 1) := by decide +kernel
theorem dX11_tells_108 : decode cX11_tells 108 = .ok (.getfield 12, 3) := by decide +kernel
theorem dX11_tells_111 : decode cX11_tells 111 = .ok (.iload_n 1, 1) := by decide +kernel
theorem dX11_tells_112 : decode cX11_tells 112 = .ok (.invokevirtual 163, 3) := by decide +kernel
theorem dX11_tells_103 : decode cX11_tells 103 = .ok (.iconst (-1), 1) := by decide +kernel
theorem dX11_tells_104 : decode cX11_tells 104 = .ok (.goto 11, 3) := by decide +kernel
theorem dX11_tells_116 : decode cX11_tells 116 = .ok (.aload_n 0, 1) := by decide +kernel
theorem dX11_tells_117 : decode cX11_tells 117 = .ok (.getfield 12, 3) := by decide +kernel
theorem dX11_tells_120 : decode cX11_tells 120 = .ok (.aload_n 3, 1) := by decide +kernel
theorem dX11_tells_121 : decode cX11_tells 121 = .ok (.getfield 154, 3) := by decide +kernel
theorem dX11_tells_124 : decode cX11_tells 124 = .ok (.iload_n 1, 1) := by decide +kernel
theorem dX11_tells_125 : decode cX11_tells 125 = .ok (.iaload, 1) := by decide +kernel
theorem dX11_tells_126 : decode cX11_tells 126 = .ok (.iload_n 1, 1) := by decide +kernel
theorem dX11_tells_127 : decode cX11_tells 127 = .ok (.invokevirtual 166, 3) := by decide +kernel
theorem dX11_tells_130 : decode cX11_tells 130 = .ok (.ifCond .eq 7, 3) := by decide +kernel
theorem dX11_tells_138 : decode cX11_tells 138 = .ok (.ireturn, 1) := by decide +kernel
theorem dX11_tells_137 : decode cX11_tells 137 = .ok (.iconst 0, 1) := by decide +kernel
theorem dX11_tells_133 : decode cX11_tells 133 = .ok (.iconst 1, 1) := by decide +kernel
theorem dX11_tells_134 : decode cX11_tells 134 = .ok (.goto 4, 3) := by decide +kernel
theorem dX11_tells_139 : decode cX11_tells 139 = .ok (.aload_n 0, 1) := by decide +kernel
theorem dX11_tells_140 : decode cX11_tells 140 = .ok (.getfield 12, 3) := by decide +kernel
theorem dX11_tells_143 : decode cX11_tells 143 = .ok (.getfield 170, 3) := by decide +kernel
theorem dX11_tells_146 : decode cX11_tells 146 = .ok (.iload_n 1, 1) := by decide +kernel
theorem dX11_tells_147 : decode cX11_tells 147 = .ok (.invokevirtual 174, 3) := by decide +kernel
theorem dX11_tells_150 : decode cX11_tells 150 = .ok (.ireturn, 1) := by decide +kernel
theorem dX11_tells_151 : decode cX11_tells 151 = .ok (.aload_n 0, 1) := by decide +kernel
theorem dX11_tells_152 : decode cX11_tells 152 = .ok (.getfield 12, 3) := by decide +kernel
theorem dX11_tells_155 : decode cX11_tells 155 = .ok (.getfield 170, 3) := by decide +kernel
theorem dX11_tells_158 : decode cX11_tells 158 = .ok (.iload_n 1, 1) := by decide +kernel
theorem dX11_tells_159 : decode cX11_tells 159 = .ok (.invokevirtual 179, 3) := by decide +kernel
theorem dX11_tells_162 : decode cX11_tells 162 = .ok (.ireturn, 1) := by decide +kernel
theorem dX11_tells_163 : decode cX11_tells 163 = .ok (.aload_n 3, 1) := by decide +kernel
theorem dX11_tells_164 : decode cX11_tells 164 = .ok (.getfield 182, 3) := by decide +kernel
theorem dX11_tells_167 : decode cX11_tells 167 = .ok (.iload_n 1, 1) := by decide +kernel
theorem dX11_tells_168 : decode cX11_tells 168 = .ok (.iaload, 1) := by decide +kernel
theorem dX11_tells_169 : decode cX11_tells 169 = .ok (.ireturn, 1) := by decide +kernel
theorem dX11_tells_170 : decode cX11_tells 170 = .ok (.iconst (-1), 1) := by decide +kernel
theorem dX11_tells_171 : decode cX11_tells 171 = .ok (.ireturn, 1) := by decide +kernel
theorem dX11_tells_16 : decode cX11_tells 16 = .ok (.iconst (-1), 1) := by decide +kernel
theorem dX11_tells_17 : decode cX11_tells 17 = .ok (.ireturn, 1) := by decide +kernel
theorem dX11_text_0 : decode cX11_text 0 = .ok (.iload_n 1, 1) := by decide +kernel
theorem dX11_text_1 : decode cX11_text 1 = .ok (.invokestatic 191, 3) := by decide +kernel
theorem dX11_text_4 : decode cX11_text 4 = .ok (.ifCond .ne 9, 3) := by decide +kernel
theorem dX11_text_13 : decode cX11_text 13 = .ok (.aload_n 0, 1) := by decide +kernel
theorem dX11_text_14 : decode cX11_text 14 = .ok (.getfield 12, 3) := by decide +kernel
theorem dX11_text_17 : decode cX11_text 17 = .ok (.getfield 219, 3) := by decide +kernel
theorem dX11_text_20 : decode cX11_text 20 = .ok (.getfield 223, 3) := by decide +kernel
theorem dX11_text_23 : decode cX11_text 23 = .ok (.bipush 20, 2) := by decide +kernel
theorem dX11_text_25 : decode cX11_text 25 = .ok (.if_icmp .lt 10, 3) := by decide +kernel
theorem dX11_text_35 : decode cX11_text 35 = .ok (.aload_n 0, 1) := by decide +kernel
theorem dX11_text_36 : decode cX11_text 36 = .ok (.getfield 37, 3) := by decide +kernel
theorem dX11_text_39 : decode cX11_text 39 = .ok (.aload_n 0, 1) := by decide +kernel
theorem dX11_text_40 : decode cX11_text 40 = .ok (.getfield 30, 3) := by decide +kernel
theorem dX11_text_43 : decode cX11_text 43 = .ok (.iload_n 1, 1) := by decide +kernel
theorem dX11_text_44 : decode cX11_text 44 = .ok (.invokevirtual 226, 3) := by decide +kernel
theorem dX11_wish_0 : decode cX11_wish 0 = .ok (.aload_n 0, 1) := by decide +kernel
theorem dX11_wish_1 : decode cX11_wish 1 = .ok (.getfield 12, 3) := by decide +kernel
theorem dX11_wish_4 : decode cX11_wish 4 = .ok (.getfield 114, 3) := by decide +kernel
theorem dX11_wish_7 : decode cX11_wish 7 = .ok (.iload_n 1, 1) := by decide +kernel
theorem dX11_wish_8 : decode cX11_wish 8 = .ok (.invokevirtual 150, 3) := by decide +kernel
theorem dX11_wish_11 : decode cX11_wish 11 = .ok (.ifCond .ne 10, 3) := by decide +kernel
theorem dX11_wish_21 : decode cX11_wish 21 = .ok (.aload_n 0, 1) := by decide +kernel
theorem dX11_wish_22 : decode cX11_wish 22 = .ok (.getfield 12, 3) := by decide +kernel
theorem dX11_wish_25 : decode cX11_wish 25 = .ok (.getfield 114, 3) := by decide +kernel
theorem dX11_wish_28 : decode cX11_wish 28 = .ok (.getfield 154, 3) := by decide +kernel
theorem dX11_wish_31 : decode cX11_wish 31 = .ok (.iload_n 1, 1) := by decide +kernel
theorem dX11_wish_32 : decode cX11_wish 32 = .ok (.iaload, 1) := by decide +kernel
theorem dX11_wish_33 : decode cX11_wish 33 = .ok (.iconst (-1), 1) := by decide +kernel
theorem dX11_wish_34 : decode cX11_wish 34 = .ok (.if_icmp .ne 10, 3) := by decide +kernel
theorem dX11_wish_44 : decode cX11_wish 44 = .ok (.aload_n 0, 1) := by decide +kernel
theorem dX11_wish_45 : decode cX11_wish 45 = .ok (.iload_n 1, 1) := by decide +kernel
theorem dX11_wish_46 : decode cX11_wish 46 = .ok (.invokevirtual 306, 3) := by decide +kernel
theorem dX11_wish_49 : decode cX11_wish 49 = .ok (.ifCond .eq 10, 3) := by decide +kernel
theorem dX11_wish_59 : decode cX11_wish 59 = .ok (.aload_n 0, 1) := by decide +kernel
theorem dX11_wish_60 : decode cX11_wish 60 = .ok (.getfield 309, 3) := by decide +kernel
theorem dX11_wish_63 : decode cX11_wish 63 = .ok (.bipush 6, 2) := by decide +kernel
theorem dX11_wish_65 : decode cX11_wish 65 = .ok (.if_icmp .lt 10, 3) := by decide +kernel
theorem dX11_wish_75 : decode cX11_wish 75 = .ok (.aload_n 0, 1) := by decide +kernel
theorem dX11_wish_76 : decode cX11_wish 76 = .ok (.getfield 41, 3) := by decide +kernel
theorem dX11_wish_79 : decode cX11_wish 79 = .ok (.aload_n 0, 1) := by decide +kernel
theorem dX11_wish_80 : decode cX11_wish 80 = .ok (.getfield 309, 3) := by decide +kernel
theorem dX11_wish_83 : decode cX11_wish 83 = .ok (.iload_n 1, 1) := by decide +kernel
theorem dX11_wish_84 : decode cX11_wish 84 = .ok (.iastore, 1) := by decide +kernel
theorem dX11_wish_85 : decode cX11_wish 85 = .ok (.aload_n 0, 1) := by decide +kernel
theorem dX11_wish_86 : decode cX11_wish 86 = .ok (.dup, 1) := by decide +kernel
theorem dX11_wish_87 : decode cX11_wish 87 = .ok (.getfield 309, 3) := by decide +kernel
theorem dX11_wish_90 : decode cX11_wish 90 = .ok (.iconst 1, 1) := by decide +kernel
theorem dX11_wish_91 : decode cX11_wish 91 = .ok (.iadd, 1) := by decide +kernel
theorem dX11_wish_92 : decode cX11_wish 92 = .ok (.putfield 309, 3) := by decide +kernel
theorem dX11_wish_95 : decode cX11_wish 95 = .ok (.aload_n 0, 1) := by decide +kernel
theorem dX11_wish_96 : decode cX11_wish 96 = .ok (.aload_n 0, 1) := by decide +kernel
theorem dX11_wish_97 : decode cX11_wish 97 = .ok (.getfield 309, 3) := by decide +kernel
theorem dX11_wish_100 : decode cX11_wish 100 = .ok (.invokevirtual 77, 3) := by decide +kernel
theorem dX11_wish_103 : decode cX11_wish 103 = .ok (.ireturn, 1) := by decide +kernel
theorem dX11_wish_68 : decode cX11_wish 68 = .ok (.aload_n 0, 1) := by decide +kernel
theorem dX11_wish_69 : decode cX11_wish 69 = .ok (.bipush (-5), 2) := by decide +kernel
theorem dX11_wish_71 : decode cX11_wish 71 = .ok (.invokevirtual 59, 3) := by decide +kernel
theorem dX11_wish_74 : decode cX11_wish 74 = .ok (.ireturn, 1) := by decide +kernel
theorem dX11_wish_52 : decode cX11_wish 52 = .ok (.aload_n 0, 1) := by decide +kernel
theorem dX11_wish_53 : decode cX11_wish 53 = .ok (.bipush (-4), 2) := by decide +kernel
theorem dX11_wish_55 : decode cX11_wish 55 = .ok (.invokevirtual 59, 3) := by decide +kernel
theorem dX11_wish_58 : decode cX11_wish 58 = .ok (.ireturn, 1) := by decide +kernel
theorem dX11_wish_37 : decode cX11_wish 37 = .ok (.aload_n 0, 1) := by decide +kernel
theorem dX11_wish_38 : decode cX11_wish 38 = .ok (.bipush (-3), 2) := by decide +kernel
theorem dX11_wish_40 : decode cX11_wish 40 = .ok (.invokevirtual 59, 3) := by decide +kernel
theorem dX11_wish_43 : decode cX11_wish 43 = .ok (.ireturn, 1) := by decide +kernel
theorem dX11_wish_14 : decode cX11_wish 14 = .ok (.aload_n 0, 1) := by decide +kernel
theorem dX11_wish_15 : decode cX11_wish 15 = .ok (.bipush (-2), 2) := by decide +kernel
theorem dX11_wish_17 : decode cX11_wish 17 = .ok (.invokevirtual 59, 3) := by decide +kernel
theorem dX11_wish_20 : decode cX11_wish 20 = .ok (.ireturn, 1) := by decide +kernel
theorem dX11_writ_0 : decode cX11_writ 0 = .ok (.aload_n 0, 1) := by decide +kernel
theorem dX11_writ_1 : decode cX11_writ 1 = .ok (.getfield 12, 3) := by decide +kernel
theorem dX11_writ_4 : decode cX11_writ 4 = .ok (.getfield 114, 3) := by decide +kernel
theorem dX11_writ_7 : decode cX11_writ 7 = .ok (.astore_n 2, 1) := by decide +kernel
theorem dX11_writ_8 : decode cX11_writ 8 = .ok (.aload_n 0, 1) := by decide +kernel
theorem dX11_writ_9 : decode cX11_writ 9 = .ok (.getfield 12, 3) := by decide +kernel
theorem dX11_writ_12 : decode cX11_writ 12 = .ok (.getfield 170, 3) := by decide +kernel
theorem dX11_writ_15 : decode cX11_writ 15 = .ok (.astore_n 3, 1) := by decide +kernel
theorem dX11_writ_16 : decode cX11_writ 16 = .ok (.aload_n 2, 1) := by decide +kernel
theorem dX11_writ_17 : decode cX11_writ 17 = .ok (.iload_n 1, 1) := by decide +kernel
theorem dX11_writ_18 : decode cX11_writ 18 = .ok (.invokevirtual 150, 3) := by decide +kernel
theorem dX11_writ_21 : decode cX11_writ 21 = .ok (.ifCond .ne 10, 3) := by decide +kernel
theorem dX11_writ_31 : decode cX11_writ 31 = .ok (.aload_n 2, 1) := by decide +kernel
theorem dX11_writ_32 : decode cX11_writ 32 = .ok (.getfield 154, 3) := by decide +kernel
theorem dX11_writ_35 : decode cX11_writ 35 = .ok (.iload_n 1, 1) := by decide +kernel
theorem dX11_writ_36 : decode cX11_writ 36 = .ok (.iaload, 1) := by decide +kernel
theorem dX11_writ_37 : decode cX11_writ 37 = .ok (.iconst (-1), 1) := by decide +kernel
theorem dX11_writ_38 : decode cX11_writ 38 = .ok (.if_icmp .eq 21, 3) := by decide +kernel
theorem dX11_writ_59 : decode cX11_writ 59 = .ok (.aload_n 0, 1) := by decide +kernel
theorem dX11_writ_60 : decode cX11_writ 60 = .ok (.bipush (-3), 2) := by decide +kernel
theorem dX11_writ_62 : decode cX11_writ 62 = .ok (.invokevirtual 59, 3) := by decide +kernel
theorem dX11_writ_65 : decode cX11_writ 65 = .ok (.ireturn, 1) := by decide +kernel
theorem dX11_writ_41 : decode cX11_writ 41 = .ok (.aload_n 2, 1) := by decide +kernel
theorem dX11_writ_42 : decode cX11_writ 42 = .ok (.getfield 160, 3) := by decide +kernel
theorem dX11_writ_45 : decode cX11_writ 45 = .ok (.iload_n 1, 1) := by decide +kernel
theorem dX11_writ_46 : decode cX11_writ 46 = .ok (.iaload, 1) := by decide +kernel
theorem dX11_writ_47 : decode cX11_writ 47 = .ok (.ifCond .eq 12, 3) := by decide +kernel
theorem dX11_writ_50 : decode cX11_writ 50 = .ok (.aload_n 3, 1) := by decide +kernel
theorem dX11_writ_51 : decode cX11_writ 51 = .ok (.iload_n 1, 1) := by decide +kernel
theorem dX11_writ_52 : decode cX11_writ 52 = .ok (.invokevirtual 248, 3) := by decide +kernel
theorem dX11_writ_55 : decode cX11_writ 55 = .ok (.iconst (-1), 1) := by decide +kernel
theorem dX11_writ_56 : decode cX11_writ 56 = .ok (.if_icmp .eq 10, 3) := by decide +kernel
theorem dX11_writ_66 : decode cX11_writ 66 = .ok (.aload_n 3, 1) := by decide +kernel
theorem dX11_writ_67 : decode cX11_writ 67 = .ok (.getfield 251, 3) := by decide +kernel
theorem dX11_writ_70 : decode cX11_writ 70 = .ok (.bipush 60, 2) := by decide +kernel
theorem dX11_writ_72 : decode cX11_writ 72 = .ok (.if_icmp .lt 10, 3) := by decide +kernel
theorem dX11_writ_82 : decode cX11_writ 82 = .ok (.aload_n 0, 1) := by decide +kernel
theorem dX11_writ_83 : decode cX11_writ 83 = .ok (.getfield 12, 3) := by decide +kernel
theorem dX11_writ_86 : decode cX11_writ 86 = .ok (.invokevirtual 151, 3) := by decide +kernel
theorem dX11_writ_89 : decode cX11_writ 89 = .ok (.aload_n 3, 1) := by decide +kernel
theorem dX11_writ_90 : decode cX11_writ 90 = .ok (.iload_n 1, 1) := by decide +kernel
theorem dX11_writ_91 : decode cX11_writ 91 = .ok (.aload_n 2, 1) := by decide +kernel
theorem dX11_writ_92 : decode cX11_writ 92 = .ok (.getfield 154, 3) := by decide +kernel
theorem dX11_writ_95 : decode cX11_writ 95 = .ok (.iload_n 1, 1) := by decide +kernel
theorem dX11_writ_96 : decode cX11_writ 96 = .ok (.iaload, 1) := by decide +kernel
theorem dX11_writ_97 : decode cX11_writ 97 = .ok (.aload_n 0, 1) := by decide +kernel
theorem dX11_writ_98 : decode cX11_writ 98 = .ok (.getfield 12, 3) := by decide +kernel
theorem dX11_writ_101 : decode cX11_writ 101 = .ok (.getfield 219, 3) := by decide +kernel
theorem dX11_writ_104 : decode cX11_writ 104 = .ok (.iconst 0, 1) := by decide +kernel
theorem dX11_writ_105 : decode cX11_writ 105 = .ok (.invokevirtual 252, 3) := by decide +kernel
theorem dX11_writ_108 : decode cX11_writ 108 = .ok (.aload_n 0, 1) := by decide +kernel
theorem dX11_writ_109 : decode cX11_writ 109 = .ok (.getfield 12, 3) := by decide +kernel
theorem dX11_writ_112 : decode cX11_writ 112 = .ok (.getfield 255, 3) := by decide +kernel
theorem dX11_writ_115 : decode cX11_writ 115 = .ok (.invokevirtual 258, 3) := by decide +kernel
theorem dX11_writ_118 : decode cX11_writ 118 = .ok (.aload_n 0, 1) := by decide +kernel
theorem dX11_writ_119 : decode cX11_writ 119 = .ok (.aload_n 3, 1) := by decide +kernel
theorem dX11_writ_120 : decode cX11_writ 120 = .ok (.getfield 251, 3) := by decide +kernel
theorem dX11_writ_123 : decode cX11_writ 123 = .ok (.invokevirtual 77, 3) := by decide +kernel
theorem dX11_writ_126 : decode cX11_writ 126 = .ok (.ireturn, 1) := by decide +kernel
theorem dX11_writ_75 : decode cX11_writ 75 = .ok (.aload_n 0, 1) := by decide +kernel
theorem dX11_writ_76 : decode cX11_writ 76 = .ok (.bipush (-5), 2) := by decide +kernel
theorem dX11_writ_78 : decode cX11_writ 78 = .ok (.invokevirtual 59, 3) := by decide +kernel
theorem dX11_writ_81 : decode cX11_writ 81 = .ok (.ireturn, 1) := by decide +kernel
theorem dX11_writ_24 : decode cX11_writ 24 = .ok (.aload_n 0, 1) := by decide +kernel
theorem dX11_writ_25 : decode cX11_writ 25 = .ok (.bipush (-2), 2) := by decide +kernel
theorem dX11_writ_27 : decode cX11_writ 27 = .ok (.invokevirtual 59, 3) := by decide +kernel
theorem dX11_writ_30 : decode cX11_writ 30 = .ok (.ireturn, 1) := by decide +kernel
def ms_X11_accept : List (Nat × Nat) := [(11, 15)]
def po_X11_accept (kp : Nat → Nat) (L : List Nat) (f0 : Nat → va_E) (h0 : Nat) (u1 : Int32) : Option Value → (Nat → va_E) → Prop := fun v f => (∃ r : Int32, v = some (.int r) ∧ (True)) ∧ FM kp L ms_X11_accept f0 f
set_option maxHeartbeats 4000000 in
set_option maxRecDepth 100000 in
theorem c_X11_accept (l : Launch) (G : va_G) (cI cJ cZ cD cR cT : ClassId) (kp : Nat → Nat) (L : List Nat) (f0 : Nat → va_E) (hTH : TH cI cJ cZ cD cR cT kp L f0) (sz : Nat) (h0 : Nat) (u1 : Int32) (rh0 : RK kp L h0 11) : Met l yX11_accept (Cond.code yX11_accept cX11_accept 2 (some .int) :: wTab) ({ frames := 1, cells := 0, slots := 0, locals := 40 }) (va_Pc [.ref h0, .int u1] (PreW G (tys6 cI cJ cZ cD cR cT) (va_pl L f0) sz)) (QT (po_X11_accept kp L f0 h0 u1) G cI cJ cZ cD cR cT (va_A (va_pl L f0) sz) kp L) 0 0 (va_A (va_pl L f0) sz) := by
  refine metT (by decide) (Nat.le_of_ble_eq_true rfl) hTH ?_
  intro p e s m below meth c A ls E hW hl
  obtain ⟨hx, hb, -, hml, hown, hts, -, -, -⟩ := id E
  have hF : FM kp L ms_X11_accept f0 f0 := FM.rf
  have hl : lv_has ls 2 [(0, .ref h0), (1, .int u1)] := hl
  refine lv_aload_n hx hb dX11_accept_0 rfl (lv_at hl 0 rfl) ?_
  refine lv_iconst (v := 0) hx hb dX11_accept_1 (by decide) ?_
  refine fp_RX11_356 E hW rh0 dX11_accept_2 (fun f1 H locs e2 n3 g4 hW => ?_)
  have hF := FM.tr hF g4 rfl
  refine lv_iload_n hx hb dX11_accept_5 rfl (lv_at hl 1 rfl) ?_
  exact e_I E hW rfl ⟨⟨_, rfl, trivial⟩, hF⟩ dX11_accept_6
def ms_X11_within : List (Nat × Nat) := []
def po_X11_within (kp : Nat → Nat) (L : List Nat) (f0 : Nat → va_E) (u1 : Int32) (u2 : Int32) (u3 : Int32) : Option Value → (Nat → va_E) → Prop := fun v f => (∃ r : Int32, v = some (.int r) ∧ ((r.toInt = 1 ∧ u2.toInt ≤ u1.toInt ∧ u1.toInt ≤ u3.toInt) ∨ (r.toInt = 0 ∧ (u1.toInt < u2.toInt ∨ u3.toInt < u1.toInt)))) ∧ FM kp L ms_X11_within f0 f
set_option maxHeartbeats 4000000 in
set_option maxRecDepth 100000 in
theorem c_X11_within (l : Launch) (G : va_G) (cI cJ cZ cD cR cT : ClassId) (kp : Nat → Nat) (L : List Nat) (f0 : Nat → va_E) (hTH : TH cI cJ cZ cD cR cT kp L f0) (sz : Nat) (u1 : Int32) (u2 : Int32) (u3 : Int32) (pu2 : (-10000 : Int) ≤ u2.toInt ∧ u2.toInt ≤ 31) : Met l yX11_within (Cond.code yX11_within cX11_within 3 (some .boolean) :: wTab) ({ frames := 1, cells := 0, slots := 0, locals := 40 }) (va_Pc [.int u1, .int u2, .int u3] (PreW G (tys6 cI cJ cZ cD cR cT) (va_pl L f0) sz)) (QT (po_X11_within kp L f0 u1 u2 u3) G cI cJ cZ cD cR cT (va_A (va_pl L f0) sz) kp L) 0 0 (va_A (va_pl L f0) sz) := by
  refine metT (by decide) (Nat.le_of_ble_eq_true rfl) hTH ?_
  intro p e s m below meth c A ls E hW hl
  obtain ⟨hx, hb, -, hml, hown, hts, -, -, -⟩ := id E
  have hF : FM kp L ms_X11_within f0 f0 := FM.rf
  have hl : lv_has ls 3 [(0, .int u1), (1, .int u2), (2, .int u3)] := hl
  refine lv_iload_n hx hb dX11_within_0 rfl (lv_at hl 0 rfl) ?_
  refine lv_iload_n hx hb dX11_within_1 rfl (lv_at hl 1 rfl) ?_
  refine q_icmp_lt (tgt := 14) hx hb dX11_within_2 (by decide) rfl rfl (fun c1 => ?_) (fun c1 => ?_)
  · refine lv_iconst (v := 0) hx hb dX11_within_14 (by decide) ?_
    exact e_Z E hW rfl (by decide) ⟨⟨_, rfl, (by have hk : (0 : Int32).toInt = 0 := rfl; first | decide | omega)⟩, hF⟩ dX11_within_15
  · refine lv_iload_n hx hb dX11_within_5 rfl (lv_at hl 0 rfl) ?_
    refine lv_iload_n hx hb dX11_within_6 rfl (lv_at hl 2 rfl) ?_
    refine q_icmp_gt (tgt := 14) hx hb dX11_within_7 (by decide) rfl rfl (fun c2 => ?_) (fun c2 => ?_)
    · have hb3 : u3.toInt ≤ 2147483646 := by have := i32_b u1; omega
      refine lv_iconst (v := 0) hx hb dX11_within_14 (by decide) ?_
      exact e_Z E hW rfl (by decide) ⟨⟨_, rfl, (by have hk : (0 : Int32).toInt = 0 := rfl; first | decide | omega)⟩, hF⟩ dX11_within_15
    · refine lv_iconst (v := 1) hx hb dX11_within_10 (by decide) ?_
      refine lv_goto (tgt := 15) hx hb dX11_within_11 (by decide) ?_
      exact e_Z E hW rfl (by decide) ⟨⟨_, rfl, (by have hk : (1 : Int32).toInt = 1 := rfl; first | decide | omega)⟩, hF⟩ dX11_within_15
def ms_X11_agree : List (Nat × Nat) := []
def po_X11_agree (kp : Nat → Nat) (L : List Nat) (f0 : Nat → va_E) (h0 : Nat) (u1 : Int32) (u2 : Int32) : Option Value → (Nat → va_E) → Prop := fun v f => (∃ r : Int32, v = some (.int r) ∧ ((-1 : Int) ≤ r.toInt)) ∧ FM kp L ms_X11_agree f0 f
set_option maxHeartbeats 4000000 in
set_option maxRecDepth 100000 in
theorem c_X11_agree (l : Launch) (G : va_G) (cI cJ cZ cD cR cT : ClassId) (kp : Nat → Nat) (L : List Nat) (f0 : Nat → va_E) (hTH : TH cI cJ cZ cD cR cT kp L f0) (sz : Nat) (h0 : Nat) (u1 : Int32) (u2 : Int32) (rh0 : RK kp L h0 11) : Met l yX11_agree (Cond.code yX11_agree cX11_agree 3 (some .int) :: wTab) ({ frames := 3, cells := 0, slots := 0, locals := 92 }) (va_Pc [.ref h0, .int u1, .int u2] (PreW G (tys6 cI cJ cZ cD cR cT) (va_pl L f0) sz)) (QT (po_X11_agree kp L f0 h0 u1 u2) G cI cJ cZ cD cR cT (va_A (va_pl L f0) sz) kp L) 0 0 (va_A (va_pl L f0) sz) := by
  refine metT (by decide) (Nat.le_of_ble_eq_true rfl) hTH ?_
  intro p e s m below meth c A ls E hW hl
  obtain ⟨hx, hb, -, hml, hown, hts, -, -, -⟩ := id E
  have hF : FM kp L ms_X11_agree f0 f0 := FM.rf
  have hl : lv_has ls 3 [(0, .ref h0), (1, .int u1), (2, .int u2)] := hl
  refine lv_iload_n hx hb dX11_agree_0 rfl (lv_at hl 1 rfl) ?_
  refine lv_sipush (v := (-10000)) hx hb dX11_agree_1 (by decide) ?_
  refine lv_sipush (v := 10000) hx hb dX11_agree_4 (by decide) ?_
  refine t_callS (As := [.int u1, .int (-10000), .int 10000]) (rest := []) E hW (c_X11_within l G cI cJ cZ cD cR cT kp L f0 hW.2.2.2 _ u1 (-10000) 10000 (by decide)) wk_X11_within tw_599 rfl ⟨Nat.le_of_ble_eq_true rfl, Nat.le_of_ble_eq_true rfl⟩ ⟨rfl, rfl⟩ hl.1 rfl (Nat.le_of_ble_eq_true rfl) dX11_agree_7 ⟨Nat.le_of_ble_eq_true rfl, Nat.le_of_ble_eq_true rfl⟩ (fun v1 f2 H locs q3 hW => ?_)
  obtain ⟨⟨x5, rfl, p6⟩, g4⟩ := q3
  have p6 : (x5.toInt = 1 ∧ (-10000) ≤ u1.toInt ∧ u1.toInt ≤ 10000) ∨ (x5.toInt = 0 ∧ (u1.toInt < (-10000) ∨ 10000 < u1.toInt)) := p6
  have hF := FM.tr hF g4 rfl
  refine q_if_eq (tgt := 26) hx hb dX11_agree_10 (by decide) rfl (fun c7 => ?_) (fun c7 => ?_)
  · have q8 : (u1.toInt < (-10000) ∨ 10000 < u1.toInt) := by omega
    clear p6
    refine lv_iconst (v := (-1)) hx hb dX11_agree_26 (by decide) ?_
    exact e_I E hW rfl ⟨⟨_, rfl, (by have hk : ((-1) : Int32).toInt = -1 := rfl; first | decide | omega)⟩, hF⟩ dX11_agree_27
  · have q9 : (-10000) ≤ u1.toInt ∧ u1.toInt ≤ 10000 := by omega
    clear p6
    refine lv_iload_n hx hb dX11_agree_13 rfl (lv_at hl 2 rfl) ?_
    refine lv_sipush (v := (-10000)) hx hb dX11_agree_14 (by decide) ?_
    refine lv_sipush (v := 10000) hx hb dX11_agree_17 (by decide) ?_
    refine t_callS (As := [.int u2, .int (-10000), .int 10000]) (rest := []) E hW (c_X11_within l G cI cJ cZ cD cR cT kp L f2 hW.2.2.2 _ u2 (-10000) 10000 (by decide)) wk_X11_within tw_599 rfl ⟨Nat.le_of_ble_eq_true rfl, Nat.le_of_ble_eq_true rfl⟩ ⟨rfl, rfl⟩ hl.1 rfl (Nat.le_of_ble_eq_true rfl) dX11_agree_20 ⟨Nat.le_of_ble_eq_true rfl, Nat.le_of_ble_eq_true rfl⟩ (fun v10 f11 H locs q12 hW => ?_)
    obtain ⟨⟨x14, rfl, p15⟩, g13⟩ := q12
    have p15 : (x14.toInt = 1 ∧ (-10000) ≤ u2.toInt ∧ u2.toInt ≤ 10000) ∨ (x14.toInt = 0 ∧ (u2.toInt < (-10000) ∨ 10000 < u2.toInt)) := p15
    have hF := FM.tr hF g13 rfl
    refine q_if_ne (tgt := 28) hx hb dX11_agree_23 (by decide) rfl (fun c16 => ?_) (fun c16 => ?_)
    · have q17 : (-10000) ≤ u2.toInt ∧ u2.toInt ≤ 10000 := by omega
      clear p15
      refine lv_aload_n hx hb dX11_agree_28 rfl (lv_at hl 0 rfl) ?_
      refine fg_RX11_12 E hW rh0 dX11_agree_29 (fun a18 m19 r20 => ?_)
      refine fg_RX11_98 E hW r20 dX11_agree_32 (fun a21 m22 r23 => ?_)
      refine lv_iload_n hx hb dX11_agree_35 rfl (lv_at hl 1 rfl) ?_
      refine lv_iload_n hx hb dX11_agree_36 rfl (lv_at hl 2 rfl) ?_
      refine t_callV (As := [.int u1, .int u2]) (rest := []) E hW (c_X3_bestSet l G cI cJ cZ cD cR cT kp L f11 hW.2.2.2 _ a21 u1 u2 r23 (by omega) (by omega)) r23 (by decide) rfl wk_X3_bestSet tw_1238 rfl ⟨Nat.le_of_ble_eq_true rfl, Nat.le_of_ble_eq_true rfl⟩ ⟨rfl, rfl⟩ hl.1 rfl (Nat.le_of_ble_eq_true rfl) dX11_agree_37 ⟨Nat.le_of_ble_eq_true rfl, Nat.le_of_ble_eq_true rfl⟩ (fun v24 f25 H locs q26 hW => ?_)
      obtain ⟨⟨x28, rfl, p29⟩, g27⟩ := q26
      have hF := FM.tr hF g27 rfl
      exact e_I E hW rfl ⟨⟨_, rfl, (by first | omega | trivial)⟩, hF⟩ dX11_agree_40
    · have q30 : (u2.toInt < (-10000) ∨ 10000 < u2.toInt) := by omega
      clear p15
      refine lv_iconst (v := (-1)) hx hb dX11_agree_26 (by decide) ?_
      exact e_I E hW rfl ⟨⟨_, rfl, (by have hk : ((-1) : Int32).toInt = -1 := rfl; first | decide | omega)⟩, hF⟩ dX11_agree_27
def ms_X11_refuse : List (Nat × Nat) := [(11, 15)]
def po_X11_refuse (kp : Nat → Nat) (L : List Nat) (f0 : Nat → va_E) (h0 : Nat) (u1 : Int32) : Option Value → (Nat → va_E) → Prop := fun v f => (∃ r : Int32, v = some (.int r) ∧ ((-6 : Int) ≤ r.toInt ∧ r.toInt ≤ -1)) ∧ FM kp L ms_X11_refuse f0 f
set_option maxHeartbeats 4000000 in
set_option maxRecDepth 100000 in
theorem c_X11_refuse (l : Launch) (G : va_G) (cI cJ cZ cD cR cT : ClassId) (kp : Nat → Nat) (L : List Nat) (f0 : Nat → va_E) (hTH : TH cI cJ cZ cD cR cT kp L f0) (sz : Nat) (h0 : Nat) (u1 : Int32) (rh0 : RK kp L h0 11) (pu1 : (-6 : Int) ≤ u1.toInt ∧ u1.toInt ≤ -1) : Met l yX11_refuse (Cond.code yX11_refuse cX11_refuse 2 (some .int) :: wTab) ({ frames := 1, cells := 0, slots := 0, locals := 40 }) (va_Pc [.ref h0, .int u1] (PreW G (tys6 cI cJ cZ cD cR cT) (va_pl L f0) sz)) (QT (po_X11_refuse kp L f0 h0 u1) G cI cJ cZ cD cR cT (va_A (va_pl L f0) sz) kp L) 0 0 (va_A (va_pl L f0) sz) := by
  refine metT (by decide) (Nat.le_of_ble_eq_true rfl) hTH ?_
  intro p e s m below meth c A ls E hW hl
  obtain ⟨hx, hb, -, hml, hown, hts, -, -, -⟩ := id E
  have hF : FM kp L ms_X11_refuse f0 f0 := FM.rf
  have hl : lv_has ls 2 [(0, .ref h0), (1, .int u1)] := hl
  refine lv_aload_n hx hb dX11_refuse_0 rfl (lv_at hl 0 rfl) ?_
  refine lv_iload_n hx hb dX11_refuse_1 rfl (lv_at hl 1 rfl) ?_
  refine fp_RX11_356 E hW rh0 dX11_refuse_2 (fun f1 H locs e2 n3 g4 hW => ?_)
  have hF := FM.tr hF g4 rfl
  refine lv_iload_n hx hb dX11_refuse_5 rfl (lv_at hl 1 rfl) ?_
  exact e_I E hW rfl ⟨⟨_, rfl, (by first | omega | trivial)⟩, hF⟩ dX11_refuse_6
def ms_X11_alter : List (Nat × Nat) := [(11, 15), (163, 0)]
def po_X11_alter (kp : Nat → Nat) (L : List Nat) (f0 : Nat → va_E) (h0 : Nat) (u1 : Int32) (u2 : Int32) : Option Value → (Nat → va_E) → Prop := fun v f => (∃ r : Int32, v = some (.int r) ∧ (True)) ∧ FM kp L ms_X11_alter f0 f
set_option maxHeartbeats 4000000 in
set_option maxRecDepth 100000 in
theorem c_X11_alter (l : Launch) (G : va_G) (cI cJ cZ cD cR cT : ClassId) (kp : Nat → Nat) (L : List Nat) (f0 : Nat → va_E) (hTH : TH cI cJ cZ cD cR cT kp L f0) (sz : Nat) (h0 : Nat) (u1 : Int32) (u2 : Int32) (rh0 : RK kp L h0 11) : Met l yX11_alter (Cond.code yX11_alter cX11_alter 3 (some .int) :: wTab) ({ frames := 2, cells := 0, slots := 0, locals := 62 }) (va_Pc [.ref h0, .int u1, .int u2] (PreW G (tys6 cI cJ cZ cD cR cT) (va_pl L f0) sz)) (QT (po_X11_alter kp L f0 h0 u1 u2) G cI cJ cZ cD cR cT (va_A (va_pl L f0) sz) kp L) 0 0 (va_A (va_pl L f0) sz) := by
  refine metT (by decide) (Nat.le_of_ble_eq_true rfl) hTH ?_
  intro p e s m below meth c A ls E hW hl
  obtain ⟨hx, hb, -, hml, hown, hts, -, -, -⟩ := id E
  have hF : FM kp L ms_X11_alter f0 f0 := FM.rf
  have hl : lv_has ls 3 [(0, .ref h0), (1, .int u1), (2, .int u2)] := hl
  refine lv_iload_n hx hb dX11_alter_0 rfl (lv_at hl 2 rfl) ?_
  refine lv_iconst (v := 1) hx hb dX11_alter_1 (by decide) ?_
  refine lv_sipush (v := 255) hx hb dX11_alter_2 (by decide) ?_
  refine t_callS (As := [.int u2, .int 1, .int 255]) (rest := []) E hW (c_X11_within l G cI cJ cZ cD cR cT kp L f0 hW.2.2.2 _ u2 1 255 (by decide)) wk_X11_within tw_599 rfl ⟨Nat.le_of_ble_eq_true rfl, Nat.le_of_ble_eq_true rfl⟩ ⟨rfl, rfl⟩ hl.1 rfl (Nat.le_of_ble_eq_true rfl) dX11_alter_5 ⟨Nat.le_of_ble_eq_true rfl, Nat.le_of_ble_eq_true rfl⟩ (fun v1 f2 H locs q3 hW => ?_)
  obtain ⟨⟨x5, rfl, p6⟩, g4⟩ := q3
  have p6 : (x5.toInt = 1 ∧ 1 ≤ u2.toInt ∧ u2.toInt ≤ 255) ∨ (x5.toInt = 0 ∧ (u2.toInt < 1 ∨ 255 < u2.toInt)) := p6
  have hF := FM.tr hF g4 rfl
  refine q_if_ne (tgt := 17) hx hb dX11_alter_8 (by decide) rfl (fun c7 => ?_) (fun c7 => ?_)
  · have q8 : 1 ≤ u2.toInt ∧ u2.toInt ≤ 255 := by omega
    clear p6
    refine lv_aload_n hx hb dX11_alter_17 rfl (lv_at hl 0 rfl) ?_
    refine fg_RX11_12 E hW rh0 dX11_alter_18 (fun a9 m10 r11 => ?_)
    refine fg_RX11_114 E hW r11 dX11_alter_21 (fun a12 m13 r14 => ?_)
    refine lv_iload_n hx hb dX11_alter_24 rfl (lv_at hl 1 rfl) ?_
    refine t_callV (As := [.int u1]) (rest := []) E hW (c_X1_has l G cI cJ cZ cD cR cT kp L f2 hW.2.2.2 _ a12 u1 r14) r14 (by decide) rfl wk_X1_has tw_683 rfl ⟨Nat.le_of_ble_eq_true rfl, Nat.le_of_ble_eq_true rfl⟩ ⟨rfl, rfl⟩ hl.1 rfl (Nat.le_of_ble_eq_true rfl) dX11_alter_25 ⟨Nat.le_of_ble_eq_true rfl, Nat.le_of_ble_eq_true rfl⟩ (fun v15 f16 H locs q17 hW => ?_)
    obtain ⟨⟨x19, rfl, p20⟩, g18⟩ := q17
    have hF := FM.tr hF g18 rfl
    refine q_if_ne (tgt := 38) hx hb dX11_alter_28 (by decide) rfl (fun c21 => ?_) (fun c21 => ?_)
    · have q22 : 0 ≤ u1.toInt ∧ u1.toInt ≤ 39 := by omega
      clear p20
      refine lv_aload_n hx hb dX11_alter_38 rfl (lv_at hl 0 rfl) ?_
      refine fg_RX11_12 E hW rh0 dX11_alter_39 (fun a23 m24 r25 => ?_)
      obtain rfl : a9 = a23 := (((fm_R g18 rh0 rfl).trans m10)).symm.trans m24
      refine fg_RX11_114 E hW r11 dX11_alter_42 (fun a26 m27 r28 => ?_)
      obtain rfl : a12 = a26 := (((fm_R g18 r11 rfl).trans m13)).symm.trans m27
      refine fg_RX11_157 E hW r14 dX11_alter_45 (fun a29 m30 r31 => ?_)
      refine lv_iload_n hx hb dX11_alter_48 rfl (lv_at hl 1 rfl) ?_
      refine lv_dup2_11 hx hb dX11_alter_49 rfl rfl ?_
      refine gl_163 E hW r31 ⟨by omega, by omega⟩ dX11_alter_50 (fun y32 m33 => ?_)
      refine lv_iload_n hx hb dX11_alter_51 rfl (lv_at hl 2 rfl) ?_
      refine u_ixor hx hb dX11_alter_52 (fun x35 => ?_)
      refine gs_163 E hW r31 ⟨by omega, by omega⟩ dX11_alter_53 (fun f36 H locs e37 n38 g39 hW => ?_)
      have hF := FM.tr hF g39 rfl
      refine lv_aload_n hx hb dX11_alter_54 rfl (lv_at hl 0 rfl) ?_
      refine lv_aload_n hx hb dX11_alter_55 rfl (lv_at hl 0 rfl) ?_
      refine fg_RX11_12 E hW rh0 dX11_alter_56 (fun a40 m41 r42 => ?_)
      obtain rfl : a9 = a40 := (((fm_R g39 rh0 rfl).trans m24)).symm.trans m41
      refine fg_RX11_114 E hW r11 dX11_alter_59 (fun a43 m44 r45 => ?_)
      obtain rfl : a12 = a43 := (((fm_R g39 r11 rfl).trans m27)).symm.trans m44
      refine fg_RX11_157 E hW r14 dX11_alter_62 (fun a46 m47 r48 => ?_)
      obtain rfl : a29 = a46 := (((fm_R g39 r14 rfl).trans m30)).symm.trans m47
      refine lv_iload_n hx hb dX11_alter_65 rfl (lv_at hl 1 rfl) ?_
      refine gl_163 E hW r31 ⟨by omega, by omega⟩ dX11_alter_66 (fun y49 m50 => ?_)
      obtain rfl : x35 = y49 := ((show aI (f36 a29) (u1 : Int32).toNatClampNeg = x35 from by rw [e37]; exact up_s)).symm.trans m50
      refine t_callV (As := [.int x35]) (rest := []) E hW (c_X11_accept l G cI cJ cZ cD cR cT kp L f36 hW.2.2.2 _ h0 x35 rh0) rh0 (by decide) rfl wk_X11_accept tw_611 rfl ⟨Nat.le_of_ble_eq_true rfl, Nat.le_of_ble_eq_true rfl⟩ ⟨rfl, rfl⟩ hl.1 rfl (Nat.le_of_ble_eq_true rfl) dX11_alter_67 ⟨Nat.le_of_ble_eq_true rfl, Nat.le_of_ble_eq_true rfl⟩ (fun v52 f53 H locs q54 hW => ?_)
      obtain ⟨⟨x56, rfl, p57⟩, g55⟩ := q54
      clear p57
      have hF := FM.tr hF g55 rfl
      exact e_I E hW rfl ⟨⟨_, rfl, trivial⟩, hF⟩ dX11_alter_70
    · clear p20
      refine lv_aload_n hx hb dX11_alter_31 rfl (lv_at hl 0 rfl) ?_
      refine lv_bipush (v := (-2)) hx hb dX11_alter_32 (by decide) ?_
      refine t_callV (As := [.int (-2)]) (rest := []) E hW (c_X11_refuse l G cI cJ cZ cD cR cT kp L f16 hW.2.2.2 _ h0 (-2) rh0 (by decide)) rh0 (by decide) rfl wk_X11_refuse tw_603 rfl ⟨Nat.le_of_ble_eq_true rfl, Nat.le_of_ble_eq_true rfl⟩ ⟨rfl, rfl⟩ hl.1 rfl (Nat.le_of_ble_eq_true rfl) dX11_alter_34 ⟨Nat.le_of_ble_eq_true rfl, Nat.le_of_ble_eq_true rfl⟩ (fun v58 f59 H locs q60 hW => ?_)
      obtain ⟨⟨x62, rfl, p63⟩, g61⟩ := q60
      have p63 : (-6 : Int) ≤ x62.toInt ∧ x62.toInt ≤ -1 := p63
      have hF := FM.tr hF g61 rfl
      exact e_I E hW rfl ⟨⟨_, rfl, trivial⟩, hF⟩ dX11_alter_37
  · have q64 : (u2.toInt < 1 ∨ 255 < u2.toInt) := by omega
    clear p6
    refine lv_aload_n hx hb dX11_alter_11 rfl (lv_at hl 0 rfl) ?_
    refine lv_iconst (v := (-1)) hx hb dX11_alter_12 (by decide) ?_
    refine t_callV (As := [.int (-1)]) (rest := []) E hW (c_X11_refuse l G cI cJ cZ cD cR cT kp L f2 hW.2.2.2 _ h0 (-1) rh0 (by decide)) rh0 (by decide) rfl wk_X11_refuse tw_603 rfl ⟨Nat.le_of_ble_eq_true rfl, Nat.le_of_ble_eq_true rfl⟩ ⟨rfl, rfl⟩ hl.1 rfl (Nat.le_of_ble_eq_true rfl) dX11_alter_13 ⟨Nat.le_of_ble_eq_true rfl, Nat.le_of_ble_eq_true rfl⟩ (fun v65 f66 H locs q67 hW => ?_)
    obtain ⟨⟨x69, rfl, p70⟩, g68⟩ := q67
    have p70 : (-6 : Int) ≤ x69.toInt ∧ x69.toInt ≤ -1 := p70
    have hF := FM.tr hF g68 rfl
    exact e_I E hW rfl ⟨⟨_, rfl, trivial⟩, hF⟩ dX11_alter_16
def ms_X11_avoid : List (Nat × Nat) := [(11, 15), (706, 0)]
def po_X11_avoid (kp : Nat → Nat) (L : List Nat) (f0 : Nat → va_E) (h0 : Nat) (u1 : Int32) : Option Value → (Nat → va_E) → Prop := fun v f => (∃ r : Int32, v = some (.int r) ∧ (True)) ∧ FM kp L ms_X11_avoid f0 f
set_option maxHeartbeats 4000000 in
set_option maxRecDepth 100000 in
theorem c_X11_avoid (l : Launch) (G : va_G) (cI cJ cZ cD cR cT : ClassId) (kp : Nat → Nat) (L : List Nat) (f0 : Nat → va_E) (hTH : TH cI cJ cZ cD cR cT kp L f0) (sz : Nat) (h0 : Nat) (u1 : Int32) (rh0 : RK kp L h0 11) : Met l yX11_avoid (Cond.code yX11_avoid cX11_avoid 3 (some .int) :: wTab) ({ frames := 2, cells := 0, slots := 0, locals := 62 }) (va_Pc [.ref h0, .int u1] (PreW G (tys6 cI cJ cZ cD cR cT) (va_pl L f0) sz)) (QT (po_X11_avoid kp L f0 h0 u1) G cI cJ cZ cD cR cT (va_A (va_pl L f0) sz) kp L) 0 0 (va_A (va_pl L f0) sz) := by
  refine metT (by decide) (Nat.le_of_ble_eq_true rfl) hTH ?_
  intro p e s m below meth c A ls E hW hl
  obtain ⟨hx, hb, -, hml, hown, hts, -, -, -⟩ := id E
  have hF : FM kp L ms_X11_avoid f0 f0 := FM.rf
  have hl : lv_has ls 3 [(0, .ref h0), (1, .int u1)] := hl
  refine lv_aload_n hx hb dX11_avoid_0 rfl (lv_at hl 0 rfl) ?_
  refine fg_RX11_12 E hW rh0 dX11_avoid_1 (fun a1 m2 r3 => ?_)
  refine fg_RX11_114 E hW r3 dX11_avoid_4 (fun a4 m5 r6 => ?_)
  refine lv_iload_n hx hb dX11_avoid_7 rfl (lv_at hl 1 rfl) ?_
  refine t_callV (As := [.int u1]) (rest := []) E hW (c_X1_has l G cI cJ cZ cD cR cT kp L f0 hW.2.2.2 _ a4 u1 r6) r6 (by decide) rfl wk_X1_has tw_683 rfl ⟨Nat.le_of_ble_eq_true rfl, Nat.le_of_ble_eq_true rfl⟩ ⟨rfl, rfl⟩ hl.1 rfl (Nat.le_of_ble_eq_true rfl) dX11_avoid_8 ⟨Nat.le_of_ble_eq_true rfl, Nat.le_of_ble_eq_true rfl⟩ (fun v7 f8 H locs q9 hW => ?_)
  obtain ⟨⟨x11, rfl, p12⟩, g10⟩ := q9
  have hF := FM.tr hF g10 rfl
  refine q_if_ne (tgt := 21) hx hb dX11_avoid_11 (by decide) rfl (fun c13 => ?_) (fun c13 => ?_)
  · have q14 : 0 ≤ u1.toInt ∧ u1.toInt ≤ 39 := by omega
    clear p12
    refine lv_aload_n hx hb dX11_avoid_21 rfl (lv_at hl 0 rfl) ?_
    refine fg_RX11_12 E hW rh0 dX11_avoid_22 (fun a15 m16 r17 => ?_)
    obtain rfl : a1 = a15 := (((fm_R g10 rh0 rfl).trans m2)).symm.trans m16
    refine fg_RX11_170 E hW r3 dX11_avoid_25 (fun a18 m19 r20 => ?_)
    refine lv_iload_n hx hb dX11_avoid_28 rfl (lv_at hl 1 rfl) ?_
    refine t_callV (As := [.int u1]) (rest := []) E hW (c_X10_openOn l G cI cJ cZ cD cR cT kp L f8 hW.2.2.2 _ a18 u1 r20 (by omega)) r20 (by decide) rfl wk_X10_openOn tw_1080 rfl ⟨Nat.le_of_ble_eq_true rfl, Nat.le_of_ble_eq_true rfl⟩ ⟨rfl, rfl⟩ hl.1 rfl (Nat.le_of_ble_eq_true rfl) dX11_avoid_29 ⟨Nat.le_of_ble_eq_true rfl, Nat.le_of_ble_eq_true rfl⟩ (fun v21 f22 H locs q23 hW => ?_)
    obtain ⟨⟨x25, rfl, p26⟩, g24⟩ := q23
    have hF := FM.tr hF g24 rfl
    refine lv_istore_n (lv' := [(2, .int x25), (0, .ref h0), (1, .int u1)]) hx hb dX11_avoid_32 rfl hl (by decide) rfl (fun ls hl => ?_)
    refine lv_iload_n hx hb dX11_avoid_33 rfl (lv_at hl 0 rfl) ?_
    refine lv_iconst (v := (-1)) hx hb dX11_avoid_34 (by decide) ?_
    refine q_icmp_ne (Y := -1) (tgt := 45) hx hb dX11_avoid_35 (by decide) rfl rfl (fun c27 => ?_) (fun c27 => ?_)
    · refine lv_aload_n hx hb dX11_avoid_45 rfl (lv_at hl 1 rfl) ?_
      refine fg_RX11_12 E hW rh0 dX11_avoid_46 (fun a28 m29 r30 => ?_)
      obtain rfl : a1 = a28 := (((fm_R g24 rh0 rfl).trans m16)).symm.trans m29
      refine fg_RX11_170 E hW r3 dX11_avoid_49 (fun a31 m32 r33 => ?_)
      obtain rfl : a18 = a31 := (((fm_R g24 r3 rfl).trans m19)).symm.trans m32
      refine fg_RX11_261 E hW r20 dX11_avoid_52 (fun a34 m35 r36 => ?_)
      refine lv_iload_n hx hb dX11_avoid_55 rfl (lv_at hl 0 rfl) ?_
      refine lv_iconst (v := 0) hx hb dX11_avoid_56 (by decide) ?_
      refine gs_706 E hW r36 ⟨by omega, by omega⟩ dX11_avoid_57 (fun f37 H locs e38 n39 g40 hW => ?_)
      have hF := FM.tr hF g40 rfl
      refine lv_aload_n hx hb dX11_avoid_58 rfl (lv_at hl 1 rfl) ?_
      refine lv_iconst (v := 0) hx hb dX11_avoid_59 (by decide) ?_
      refine t_callV (As := [.int 0]) (rest := []) E hW (c_X11_accept l G cI cJ cZ cD cR cT kp L f37 hW.2.2.2 _ h0 0 rh0) rh0 (by decide) rfl wk_X11_accept tw_611 rfl ⟨Nat.le_of_ble_eq_true rfl, Nat.le_of_ble_eq_true rfl⟩ ⟨rfl, rfl⟩ hl.1 rfl (Nat.le_of_ble_eq_true rfl) dX11_avoid_60 ⟨Nat.le_of_ble_eq_true rfl, Nat.le_of_ble_eq_true rfl⟩ (fun v41 f42 H locs q43 hW => ?_)
      obtain ⟨⟨x45, rfl, p46⟩, g44⟩ := q43
      clear p46
      have hF := FM.tr hF g44 rfl
      exact e_I E hW rfl ⟨⟨_, rfl, trivial⟩, hF⟩ dX11_avoid_63
    · refine lv_aload_n hx hb dX11_avoid_38 rfl (lv_at hl 1 rfl) ?_
      refine lv_bipush (v := (-3)) hx hb dX11_avoid_39 (by decide) ?_
      refine t_callV (As := [.int (-3)]) (rest := []) E hW (c_X11_refuse l G cI cJ cZ cD cR cT kp L f22 hW.2.2.2 _ h0 (-3) rh0 (by decide)) rh0 (by decide) rfl wk_X11_refuse tw_603 rfl ⟨Nat.le_of_ble_eq_true rfl, Nat.le_of_ble_eq_true rfl⟩ ⟨rfl, rfl⟩ hl.1 rfl (Nat.le_of_ble_eq_true rfl) dX11_avoid_41 ⟨Nat.le_of_ble_eq_true rfl, Nat.le_of_ble_eq_true rfl⟩ (fun v47 f48 H locs q49 hW => ?_)
      obtain ⟨⟨x51, rfl, p52⟩, g50⟩ := q49
      have p52 : (-6 : Int) ≤ x51.toInt ∧ x51.toInt ≤ -1 := p52
      have hF := FM.tr hF g50 rfl
      exact e_I E hW rfl ⟨⟨_, rfl, trivial⟩, hF⟩ dX11_avoid_44
  · clear p12
    refine lv_aload_n hx hb dX11_avoid_14 rfl (lv_at hl 0 rfl) ?_
    refine lv_bipush (v := (-2)) hx hb dX11_avoid_15 (by decide) ?_
    refine t_callV (As := [.int (-2)]) (rest := []) E hW (c_X11_refuse l G cI cJ cZ cD cR cT kp L f8 hW.2.2.2 _ h0 (-2) rh0 (by decide)) rh0 (by decide) rfl wk_X11_refuse tw_603 rfl ⟨Nat.le_of_ble_eq_true rfl, Nat.le_of_ble_eq_true rfl⟩ ⟨rfl, rfl⟩ hl.1 rfl (Nat.le_of_ble_eq_true rfl) dX11_avoid_17 ⟨Nat.le_of_ble_eq_true rfl, Nat.le_of_ble_eq_true rfl⟩ (fun v53 f54 H locs q55 hW => ?_)
    obtain ⟨⟨x57, rfl, p58⟩, g56⟩ := q55
    have p58 : (-6 : Int) ≤ x57.toInt ∧ x57.toInt ≤ -1 := p58
    have hF := FM.tr hF g56 rfl
    exact e_I E hW rfl ⟨⟨_, rfl, trivial⟩, hF⟩ dX11_avoid_20
def ms_X11_back : List (Nat × Nat) := [(0, 6), (0, 9), (0, 12), (0, 13), (1, 0), (1, 8), (1, 12), (1, 13), (1, 14), (2, 0), (3, 0), (3, 1), (3, 2), (3, 3), (4, 0), (10, 0), (10, 7), (11, 15), (108, 0), (161, 0), (162, 0), (163, 0), (164, 0), (165, 0), (166, 0), (167, 0), (169, 0), (170, 0), (171, 0), (221, 0), (284, 0), (285, 0), (341, 0), (342, 0), (343, 0), (344, 0), (345, 0), (346, 0), (347, 0), (348, 0), (520, 0), (521, 0), (701, 0), (702, 0), (703, 0), (704, 0), (705, 0), (706, 0), (708, 0), (709, 0), (710, 0)]
def po_X11_back (kp : Nat → Nat) (L : List Nat) (f0 : Nat → va_E) (h0 : Nat) (u1 : Int32) : Option Value → (Nat → va_E) → Prop := fun v f => (∃ r : Int32, v = some (.int r) ∧ (True)) ∧ FM kp L ms_X11_back f0 f
set_option maxHeartbeats 4000000 in
set_option maxRecDepth 100000 in
theorem c_X11_back (l : Launch) (G : va_G) (cI cJ cZ cD cR cT : ClassId) (kp : Nat → Nat) (L : List Nat) (f0 : Nat → va_E) (hTH : TH cI cJ cZ cD cR cT kp L f0) (sz : Nat) (h0 : Nat) (u1 : Int32) (rh0 : RK kp L h0 11) : Met l yX11_back (Cond.code yX11_back cX11_back 2 (some .int) :: wTab) ({ frames := 3, cells := 0, slots := 0, locals := 103 }) (va_Pc [.ref h0, .int u1] (PreW G (tys6 cI cJ cZ cD cR cT) (va_pl L f0) sz)) (QT (po_X11_back kp L f0 h0 u1) G cI cJ cZ cD cR cT (va_A (va_pl L f0) sz) kp L) 0 0 (va_A (va_pl L f0) sz) := by
  refine metT (by decide) (Nat.le_of_ble_eq_true rfl) hTH ?_
  intro p e s m below meth c A ls E hW hl
  obtain ⟨hx, hb, -, hml, hown, hts, -, -, -⟩ := id E
  have hF : FM kp L ms_X11_back f0 f0 := FM.rf
  have hl : lv_has ls 2 [(0, .ref h0), (1, .int u1)] := hl
  refine lv_iload_n hx hb dX11_back_0 rfl (lv_at hl 1 rfl) ?_
  refine lv_iconst (v := 0) hx hb dX11_back_1 (by decide) ?_
  refine lv_iconst (v := 1) hx hb dX11_back_2 (by decide) ?_
  refine t_callS (As := [.int u1, .int 0, .int 1]) (rest := []) E hW (c_X11_within l G cI cJ cZ cD cR cT kp L f0 hW.2.2.2 _ u1 0 1 (by decide)) wk_X11_within tw_599 rfl ⟨Nat.le_of_ble_eq_true rfl, Nat.le_of_ble_eq_true rfl⟩ ⟨rfl, rfl⟩ hl.1 rfl (Nat.le_of_ble_eq_true rfl) dX11_back_3 ⟨Nat.le_of_ble_eq_true rfl, Nat.le_of_ble_eq_true rfl⟩ (fun v1 f2 H locs q3 hW => ?_)
  obtain ⟨⟨x5, rfl, p6⟩, g4⟩ := q3
  have p6 : (x5.toInt = 1 ∧ 0 ≤ u1.toInt ∧ u1.toInt ≤ 1) ∨ (x5.toInt = 0 ∧ (u1.toInt < 0 ∨ 1 < u1.toInt)) := p6
  have hF := FM.tr hF g4 rfl
  refine q_if_ne (tgt := 15) hx hb dX11_back_6 (by decide) rfl (fun c7 => ?_) (fun c7 => ?_)
  · have q8 : 0 ≤ u1.toInt ∧ u1.toInt ≤ 1 := by omega
    clear p6
    refine lv_iload_n hx hb dX11_back_15 rfl (lv_at hl 1 rfl) ?_
    refine q_if_ne (tgt := 29) hx hb dX11_back_16 (by decide) rfl (fun c9 => ?_) (fun c9 => ?_)
    · refine lv_aload_n hx hb dX11_back_29 rfl (lv_at hl 0 rfl) ?_
      refine fg_RX11_353 E hW rh0 dX11_back_30 (fun y10 m11 b12 => ?_)
      refine q_if_ne (tgt := 43) hx hb dX11_back_33 (by decide) rfl (fun c13 => ?_) (fun c13 => ?_)
      · refine lv_aload_n hx hb dX11_back_43 rfl (lv_at hl 0 rfl) ?_
        refine fg_RX11_12 E hW rh0 dX11_back_44 (fun a14 m15 r16 => ?_)
        refine lv_iload_n hx hb dX11_back_47 rfl (lv_at hl 1 rfl) ?_
        refine q_if_ne (tgt := 58) hx hb dX11_back_48 (by decide) rfl (fun c20 => ?_) (fun c20 => ?_)
        · refine lv_aload_n hx hb dX11_back_58 rfl (lv_at hl 0 rfl) ?_
          refine fg_RX11_24 E hW rh0 dX11_back_59 (fun a21 m22 r23 => ?_)
          refine t_callV (As := [.ref a21]) (rest := []) E hW (c_X0_copyFrom l G cI cJ cZ cD cR cT kp L f2 hW.2.2.2 _ a14 a21 r16 r23) r16 (by decide) rfl wk_X0_copyFrom tw_1285 rfl ⟨Nat.le_of_ble_eq_true rfl, Nat.le_of_ble_eq_true rfl⟩ ⟨rfl, rfl⟩ hl.1 rfl (Nat.le_of_ble_eq_true rfl) dX11_back_62 ⟨Nat.le_of_ble_eq_true rfl, Nat.le_of_ble_eq_true rfl⟩ (fun v24 f25 H locs q26 hW => ?_)
          obtain ⟨rfl, g27⟩ := q26
          have hF := FM.tr hF g27 rfl
          refine lv_aload_n hx hb dX11_back_65 rfl (lv_at hl 0 rfl) ?_
          refine lv_iconst (v := 0) hx hb dX11_back_66 (by decide) ?_
          refine t_callV (As := [.int 0]) (rest := []) E hW (c_X11_accept l G cI cJ cZ cD cR cT kp L f25 hW.2.2.2 _ h0 0 rh0) rh0 (by decide) rfl wk_X11_accept tw_611 rfl ⟨Nat.le_of_ble_eq_true rfl, Nat.le_of_ble_eq_true rfl⟩ ⟨rfl, rfl⟩ hl.1 rfl (Nat.le_of_ble_eq_true rfl) dX11_back_67 ⟨Nat.le_of_ble_eq_true rfl, Nat.le_of_ble_eq_true rfl⟩ (fun v28 f29 H locs q30 hW => ?_)
          obtain ⟨⟨x32, rfl, p33⟩, g31⟩ := q30
          clear p33
          have hF := FM.tr hF g31 rfl
          exact e_I E hW rfl ⟨⟨_, rfl, trivial⟩, hF⟩ dX11_back_70
        · exfalso; omega
      · refine lv_aload_n hx hb dX11_back_36 rfl (lv_at hl 0 rfl) ?_
        refine lv_bipush (v := (-2)) hx hb dX11_back_37 (by decide) ?_
        refine t_callV (As := [.int (-2)]) (rest := []) E hW (c_X11_refuse l G cI cJ cZ cD cR cT kp L f2 hW.2.2.2 _ h0 (-2) rh0 (by decide)) rh0 (by decide) rfl wk_X11_refuse tw_603 rfl ⟨Nat.le_of_ble_eq_true rfl, Nat.le_of_ble_eq_true rfl⟩ ⟨rfl, rfl⟩ hl.1 rfl (Nat.le_of_ble_eq_true rfl) dX11_back_39 ⟨Nat.le_of_ble_eq_true rfl, Nat.le_of_ble_eq_true rfl⟩ (fun v34 f35 H locs q36 hW => ?_)
        obtain ⟨⟨x38, rfl, p39⟩, g37⟩ := q36
        have p39 : (-6 : Int) ≤ x38.toInt ∧ x38.toInt ≤ -1 := p39
        have hF := FM.tr hF g37 rfl
        exact e_I E hW rfl ⟨⟨_, rfl, trivial⟩, hF⟩ dX11_back_42
    · refine lv_aload_n hx hb dX11_back_19 rfl (lv_at hl 0 rfl) ?_
      refine fg_RX11_349 E hW rh0 dX11_back_20 (fun y40 m41 b42 => ?_)
      refine q_if_ne (tgt := 43) hx hb dX11_back_23 (by decide) rfl (fun c43 => ?_) (fun c43 => ?_)
      · refine lv_aload_n hx hb dX11_back_43 rfl (lv_at hl 0 rfl) ?_
        refine fg_RX11_12 E hW rh0 dX11_back_44 (fun a44 m45 r46 => ?_)
        refine lv_iload_n hx hb dX11_back_47 rfl (lv_at hl 1 rfl) ?_
        refine q_if_ne (tgt := 58) hx hb dX11_back_48 (by decide) rfl (fun c50 => ?_) (fun c50 => ?_)
        · exfalso; omega
        · refine lv_aload_n hx hb dX11_back_51 rfl (lv_at hl 0 rfl) ?_
          refine fg_RX11_21 E hW rh0 dX11_back_52 (fun a51 m52 r53 => ?_)
          refine lv_goto (tgt := 62) hx hb dX11_back_55 (by decide) ?_
          refine t_callV (As := [.ref a51]) (rest := []) E hW (c_X0_copyFrom l G cI cJ cZ cD cR cT kp L f2 hW.2.2.2 _ a44 a51 r46 r53) r46 (by decide) rfl wk_X0_copyFrom tw_1285 rfl ⟨Nat.le_of_ble_eq_true rfl, Nat.le_of_ble_eq_true rfl⟩ ⟨rfl, rfl⟩ hl.1 rfl (Nat.le_of_ble_eq_true rfl) dX11_back_62 ⟨Nat.le_of_ble_eq_true rfl, Nat.le_of_ble_eq_true rfl⟩ (fun v54 f55 H locs q56 hW => ?_)
          obtain ⟨rfl, g57⟩ := q56
          have hF := FM.tr hF g57 rfl
          refine lv_aload_n hx hb dX11_back_65 rfl (lv_at hl 0 rfl) ?_
          refine lv_iconst (v := 0) hx hb dX11_back_66 (by decide) ?_
          refine t_callV (As := [.int 0]) (rest := []) E hW (c_X11_accept l G cI cJ cZ cD cR cT kp L f55 hW.2.2.2 _ h0 0 rh0) rh0 (by decide) rfl wk_X11_accept tw_611 rfl ⟨Nat.le_of_ble_eq_true rfl, Nat.le_of_ble_eq_true rfl⟩ ⟨rfl, rfl⟩ hl.1 rfl (Nat.le_of_ble_eq_true rfl) dX11_back_67 ⟨Nat.le_of_ble_eq_true rfl, Nat.le_of_ble_eq_true rfl⟩ (fun v58 f59 H locs q60 hW => ?_)
          obtain ⟨⟨x62, rfl, p63⟩, g61⟩ := q60
          clear p63
          have hF := FM.tr hF g61 rfl
          exact e_I E hW rfl ⟨⟨_, rfl, trivial⟩, hF⟩ dX11_back_70
      · refine lv_goto (tgt := 36) hx hb dX11_back_26 (by decide) ?_
        refine lv_aload_n hx hb dX11_back_36 rfl (lv_at hl 0 rfl) ?_
        refine lv_bipush (v := (-2)) hx hb dX11_back_37 (by decide) ?_
        refine t_callV (As := [.int (-2)]) (rest := []) E hW (c_X11_refuse l G cI cJ cZ cD cR cT kp L f2 hW.2.2.2 _ h0 (-2) rh0 (by decide)) rh0 (by decide) rfl wk_X11_refuse tw_603 rfl ⟨Nat.le_of_ble_eq_true rfl, Nat.le_of_ble_eq_true rfl⟩ ⟨rfl, rfl⟩ hl.1 rfl (Nat.le_of_ble_eq_true rfl) dX11_back_39 ⟨Nat.le_of_ble_eq_true rfl, Nat.le_of_ble_eq_true rfl⟩ (fun v64 f65 H locs q66 hW => ?_)
        obtain ⟨⟨x68, rfl, p69⟩, g67⟩ := q66
        have p69 : (-6 : Int) ≤ x68.toInt ∧ x68.toInt ≤ -1 := p69
        have hF := FM.tr hF g67 rfl
        exact e_I E hW rfl ⟨⟨_, rfl, trivial⟩, hF⟩ dX11_back_42
  · have q70 : (u1.toInt < 0 ∨ 1 < u1.toInt) := by omega
    clear p6
    refine lv_aload_n hx hb dX11_back_9 rfl (lv_at hl 0 rfl) ?_
    refine lv_iconst (v := (-1)) hx hb dX11_back_10 (by decide) ?_
    refine t_callV (As := [.int (-1)]) (rest := []) E hW (c_X11_refuse l G cI cJ cZ cD cR cT kp L f2 hW.2.2.2 _ h0 (-1) rh0 (by decide)) rh0 (by decide) rfl wk_X11_refuse tw_603 rfl ⟨Nat.le_of_ble_eq_true rfl, Nat.le_of_ble_eq_true rfl⟩ ⟨rfl, rfl⟩ hl.1 rfl (Nat.le_of_ble_eq_true rfl) dX11_back_11 ⟨Nat.le_of_ble_eq_true rfl, Nat.le_of_ble_eq_true rfl⟩ (fun v71 f72 H locs q73 hW => ?_)
    obtain ⟨⟨x75, rfl, p76⟩, g74⟩ := q73
    have p76 : (-6 : Int) ≤ x75.toInt ∧ x75.toInt ≤ -1 := p76
    have hF := FM.tr hF g74 rfl
    exact e_I E hW rfl ⟨⟨_, rfl, trivial⟩, hF⟩ dX11_back_14
def ms_X11_bitsOfRow : List (Nat × Nat) := []
def po_X11_bitsOfRow (kp : Nat → Nat) (L : List Nat) (f0 : Nat → va_E) (h0 : Nat) (u1 : Int32) : Option Value → (Nat → va_E) → Prop := fun v f => (∃ r : Int32, v = some (.int r) ∧ (True)) ∧ FM kp L ms_X11_bitsOfRow f0 f
set_option maxHeartbeats 4000000 in
set_option maxRecDepth 100000 in
theorem c_X11_bitsOfRow (l : Launch) (G : va_G) (cI cJ cZ cD cR cT : ClassId) (kp : Nat → Nat) (L : List Nat) (f0 : Nat → va_E) (hTH : TH cI cJ cZ cD cR cT kp L f0) (sz : Nat) (h0 : Nat) (u1 : Int32) (rh0 : RK kp L h0 11) (pu1 : (0 : Int) ≤ u1.toInt) : Met l yX11_bitsOfRow (Cond.code yX11_bitsOfRow cX11_bitsOfRow 4 (some .int) :: wTab) ({ frames := 1, cells := 0, slots := 0, locals := 40 }) (va_Pc [.ref h0, .int u1] (PreW G (tys6 cI cJ cZ cD cR cT) (va_pl L f0) sz)) (QT (po_X11_bitsOfRow kp L f0 h0 u1) G cI cJ cZ cD cR cT (va_A (va_pl L f0) sz) kp L) 0 0 (va_A (va_pl L f0) sz) := by
  refine metT (by decide) (Nat.le_of_ble_eq_true rfl) hTH ?_
  intro p e s m below meth c A ls E hW hl
  obtain ⟨hx, hb, -, hml, hown, hts, -, -, -⟩ := id E
  have hF : FM kp L ms_X11_bitsOfRow f0 f0 := FM.rf
  have hl : lv_has ls 4 [(0, .ref h0), (1, .int u1)] := hl
  refine lv_iconst (v := 0) hx hb dX11_bitsOfRow_0 (by decide) ?_
  refine lv_istore_n (lv' := [(2, .int 0), (0, .ref h0), (1, .int u1)]) hx hb dX11_bitsOfRow_1 rfl hl (by decide) rfl (fun ls hl => ?_)
  refine lv_iconst (v := 0) hx hb dX11_bitsOfRow_2 (by decide) ?_
  refine lv_istore_n (lv' := [(3, .int 0), (2, .int 0), (0, .ref h0), (1, .int u1)]) hx hb dX11_bitsOfRow_3 rfl hl (by decide) rfl (fun ls hl => ?_)
  have L152 : ∀ (n : Nat), ∀ (y149 : Int32) (y151 : Int32) (b150 : (0 : Int) ≤ y149.toInt ∧ y149.toInt ≤ 6) (hm : (7 : Int) - y149.toInt ≤ n) (H : Heap) (locs : List Loc) (ls : Array Slot), WS G cI cJ cZ cD cR cT A kp L f0 s H locs → FM kp L ms_X11_bitsOfRow f0 f0 → lv_has ls 4 [(3, .int y149), (2, .int y151), (0, .ref h0), (1, .int u1)] → W p l e ({ frames := 1, cells := 0, slots := 0, locals := 40 }) s m ([.ref h0, .int u1] : List Value).toArray below meth c H locs 0 0 (MQ below (QT (po_X11_bitsOfRow kp L f0 h0 u1) G cI cJ cZ cD cR cT A kp L) ([.ref h0, .int u1] : List Value).toArray s 0 0 A) (F0 m 4 ls []) := by
    intro n
    induction n with
    | zero =>
      intro y149 y151 b150 hm H locs ls hW hF hl
      have hz := i32_b y149
      exfalso; omega
    | succ n ih =>
      intro y149 y151 b150 hm H locs ls hW hF hl
      have ih4 := ih
      refine lv_iload_n hx hb dX11_bitsOfRow_4 rfl (lv_at hl 0 rfl) ?_
      refine lv_aload_n hx hb dX11_bitsOfRow_5 rfl (lv_at hl 2 rfl) ?_
      refine fg_RX11_309 E hW rh0 dX11_bitsOfRow_6 (fun y153 m154 b155 => ?_)
      refine q_icmp_ge (tgt := 35) hx hb dX11_bitsOfRow_9 (by decide) rfl rfl (fun c170 => ?_) (fun c170 => ?_)
      · refine lv_iload_n hx hb dX11_bitsOfRow_35 rfl (lv_at hl 1 rfl) ?_
        exact e_I E hW rfl ⟨⟨_, rfl, trivial⟩, hF⟩ dX11_bitsOfRow_36
      · refine lv_iload_n hx hb dX11_bitsOfRow_12 rfl (lv_at hl 1 rfl) ?_
        refine lv_iload_n hx hb dX11_bitsOfRow_13 rfl (lv_at hl 3 rfl) ?_
        refine lv_iload_n hx hb dX11_bitsOfRow_14 rfl (lv_at hl 0 rfl) ?_
        refine u_ishr hx hb dX11_bitsOfRow_15 (fun x171 => ?_)
        refine lv_iconst (v := 1) hx hb dX11_bitsOfRow_16 (by decide) ?_
        refine q_iand (M := 1) (k := 1) hx hb dX11_bitsOfRow_17 (by decide) (by decide) (by decide) (fun x172 h173 => ?_)
        refine lv_aload_n hx hb dX11_bitsOfRow_18 rfl (lv_at hl 2 rfl) ?_
        refine fg_RX11_309 E hW rh0 dX11_bitsOfRow_19 (fun y174 m175 b176 => ?_)
        obtain rfl : y153 = y174 := (m154).symm.trans m175
        refine lv_iconst (v := 1) hx hb dX11_bitsOfRow_22 (by decide) ?_
        refine q_isub (Y := 1) hx hb dX11_bitsOfRow_23 rfl rfl (by omega) (fun x177 h178 => ?_)
        refine lv_iload_n hx hb dX11_bitsOfRow_24 rfl (lv_at hl 0 rfl) ?_
        refine q_isub hx hb dX11_bitsOfRow_25 rfl rfl (by omega) (fun x179 h180 => ?_)
        refine u_ishl hx hb dX11_bitsOfRow_26 (fun x181 => ?_)
        refine u_ior hx hb dX11_bitsOfRow_27 (fun x182 => ?_)
        refine lv_istore_n (lv' := [(2, .int x182), (3, .int y149), (0, .ref h0), (1, .int u1)]) hx hb dX11_bitsOfRow_28 rfl hl (by decide) rfl (fun ls hl => ?_)
        refine q_iinc hx hb dX11_bitsOfRow_29 hl (k := 1) rfl rfl rfl (by omega) (by decide) (fun i183 ls h184 hl => ?_)
        have hl : lv_has ls 4 [(3, .int i183), (2, .int x182), (0, .ref h0), (1, .int u1)] := hl
        refine lv_goto (tgt := 4) hx hb dX11_bitsOfRow_32 (by decide) ?_
        exact ih4 i183 x182 (by omega) (by omega) _ _ _ hW hF (lv_sub hl [0, 1, 2, 3] rfl)
  have hk185 : (0 : Int32).toInt = 0 := rfl
  have hk186 : (0 : Int32).toInt = 0 := rfl
  exact L152 7 0 0 (by decide) (by omega) _ _ _ hW hF (lv_sub hl [0, 1, 2, 3] rfl)
def ms_X11_brave : List (Nat × Nat) := [(3, 1), (11, 15)]
def po_X11_brave (kp : Nat → Nat) (L : List Nat) (f0 : Nat → va_E) (h0 : Nat) (u1 : Int32) : Option Value → (Nat → va_E) → Prop := fun v f => (∃ r : Int32, v = some (.int r) ∧ (True)) ∧ FM kp L ms_X11_brave f0 f
set_option maxHeartbeats 4000000 in
set_option maxRecDepth 100000 in
theorem c_X11_brave (l : Launch) (G : va_G) (cI cJ cZ cD cR cT : ClassId) (kp : Nat → Nat) (L : List Nat) (f0 : Nat → va_E) (hTH : TH cI cJ cZ cD cR cT kp L f0) (sz : Nat) (h0 : Nat) (u1 : Int32) (rh0 : RK kp L h0 11) : Met l yX11_brave (Cond.code yX11_brave cX11_brave 3 (some .int) :: wTab) ({ frames := 2, cells := 0, slots := 0, locals := 62 }) (va_Pc [.ref h0, .int u1] (PreW G (tys6 cI cJ cZ cD cR cT) (va_pl L f0) sz)) (QT (po_X11_brave kp L f0 h0 u1) G cI cJ cZ cD cR cT (va_A (va_pl L f0) sz) kp L) 0 0 (va_A (va_pl L f0) sz) := by
  refine metT (by decide) (Nat.le_of_ble_eq_true rfl) hTH ?_
  intro p e s m below meth c A ls E hW hl
  obtain ⟨hx, hb, -, hml, hown, hts, -, -, -⟩ := id E
  have hF : FM kp L ms_X11_brave f0 f0 := FM.rf
  have hl : lv_has ls 3 [(0, .ref h0), (1, .int u1)] := hl
  refine lv_iload_n hx hb dX11_brave_0 rfl (lv_at hl 1 rfl) ?_
  refine lv_iconst (v := 0) hx hb dX11_brave_1 (by decide) ?_
  refine lv_bipush (v := 101) hx hb dX11_brave_2 (by decide) ?_
  refine t_callS (As := [.int u1, .int 0, .int 101]) (rest := []) E hW (c_X11_within l G cI cJ cZ cD cR cT kp L f0 hW.2.2.2 _ u1 0 101 (by decide)) wk_X11_within tw_599 rfl ⟨Nat.le_of_ble_eq_true rfl, Nat.le_of_ble_eq_true rfl⟩ ⟨rfl, rfl⟩ hl.1 rfl (Nat.le_of_ble_eq_true rfl) dX11_brave_4 ⟨Nat.le_of_ble_eq_true rfl, Nat.le_of_ble_eq_true rfl⟩ (fun v1 f2 H locs q3 hW => ?_)
  obtain ⟨⟨x5, rfl, p6⟩, g4⟩ := q3
  have p6 : (x5.toInt = 1 ∧ 0 ≤ u1.toInt ∧ u1.toInt ≤ 101) ∨ (x5.toInt = 0 ∧ (u1.toInt < 0 ∨ 101 < u1.toInt)) := p6
  have hF := FM.tr hF g4 rfl
  refine q_if_ne (tgt := 16) hx hb dX11_brave_7 (by decide) rfl (fun c7 => ?_) (fun c7 => ?_)
  · have q8 : 0 ≤ u1.toInt ∧ u1.toInt ≤ 101 := by omega
    clear p6
    refine lv_aload_n hx hb dX11_brave_16 rfl (lv_at hl 0 rfl) ?_
    refine fg_RX11_12 E hW rh0 dX11_brave_17 (fun a9 m10 r11 => ?_)
    refine fg_RX11_98 E hW r11 dX11_brave_20 (fun a12 m13 r14 => ?_)
    refine fg_RX11_282 E hW r14 dX11_brave_23 (fun y15 m16 => ?_)
    refine lv_istore_n (lv' := [(2, .int y15), (0, .ref h0), (1, .int u1)]) hx hb dX11_brave_26 rfl hl (by decide) rfl (fun ls hl => ?_)
    refine lv_aload_n hx hb dX11_brave_27 rfl (lv_at hl 1 rfl) ?_
    refine fg_RX11_12 E hW rh0 dX11_brave_28 (fun a18 m19 r20 => ?_)
    obtain rfl : a9 = a18 := (m10).symm.trans m19
    refine fg_RX11_98 E hW r11 dX11_brave_31 (fun a21 m22 r23 => ?_)
    obtain rfl : a12 = a21 := (m13).symm.trans m22
    refine lv_iload_n hx hb dX11_brave_34 rfl (lv_at hl 2 rfl) ?_
    refine fp_RX11_282 E hW r14 dX11_brave_35 (fun f24 H locs e25 n26 g27 hW => ?_)
    have hF := FM.tr hF g27 rfl
    refine lv_aload_n hx hb dX11_brave_38 rfl (lv_at hl 1 rfl) ?_
    refine lv_iload_n hx hb dX11_brave_39 rfl (lv_at hl 0 rfl) ?_
    refine t_callV (As := [.int y15]) (rest := []) E hW (c_X11_accept l G cI cJ cZ cD cR cT kp L f24 hW.2.2.2 _ h0 y15 rh0) rh0 (by decide) rfl wk_X11_accept tw_611 rfl ⟨Nat.le_of_ble_eq_true rfl, Nat.le_of_ble_eq_true rfl⟩ ⟨rfl, rfl⟩ hl.1 rfl (Nat.le_of_ble_eq_true rfl) dX11_brave_40 ⟨Nat.le_of_ble_eq_true rfl, Nat.le_of_ble_eq_true rfl⟩ (fun v28 f29 H locs q30 hW => ?_)
    obtain ⟨⟨x32, rfl, p33⟩, g31⟩ := q30
    clear p33
    have hF := FM.tr hF g31 rfl
    exact e_I E hW rfl ⟨⟨_, rfl, trivial⟩, hF⟩ dX11_brave_43
  · have q34 : (u1.toInt < 0 ∨ 101 < u1.toInt) := by omega
    clear p6
    refine lv_aload_n hx hb dX11_brave_10 rfl (lv_at hl 0 rfl) ?_
    refine lv_iconst (v := (-1)) hx hb dX11_brave_11 (by decide) ?_
    refine t_callV (As := [.int (-1)]) (rest := []) E hW (c_X11_refuse l G cI cJ cZ cD cR cT kp L f2 hW.2.2.2 _ h0 (-1) rh0 (by decide)) rh0 (by decide) rfl wk_X11_refuse tw_603 rfl ⟨Nat.le_of_ble_eq_true rfl, Nat.le_of_ble_eq_true rfl⟩ ⟨rfl, rfl⟩ hl.1 rfl (Nat.le_of_ble_eq_true rfl) dX11_brave_12 ⟨Nat.le_of_ble_eq_true rfl, Nat.le_of_ble_eq_true rfl⟩ (fun v35 f36 H locs q37 hW => ?_)
    obtain ⟨⟨x39, rfl, p40⟩, g38⟩ := q37
    have p40 : (-6 : Int) ≤ x39.toInt ∧ x39.toInt ≤ -1 := p40
    have hF := FM.tr hF g38 rfl
    exact e_I E hW rfl ⟨⟨_, rfl, trivial⟩, hF⟩ dX11_brave_15
def ms_X11_broke : List (Nat × Nat) := []
def po_X11_broke (kp : Nat → Nat) (L : List Nat) (f0 : Nat → va_E) (h0 : Nat) (u1 : Int32) (u2 : Int32) (u3 : Int32) (u4 : Int32) : Option Value → (Nat → va_E) → Prop := fun v f => (∃ r : Int32, v = some (.int r) ∧ (True)) ∧ FM kp L ms_X11_broke f0 f
set_option maxHeartbeats 4000000 in
set_option maxRecDepth 100000 in
theorem c_X11_broke (l : Launch) (G : va_G) (cI cJ cZ cD cR cT : ClassId) (kp : Nat → Nat) (L : List Nat) (f0 : Nat → va_E) (hTH : TH cI cJ cZ cD cR cT kp L f0) (sz : Nat) (h0 : Nat) (u1 : Int32) (u2 : Int32) (u3 : Int32) (u4 : Int32) (rh0 : RK kp L h0 11) : Met l yX11_broke (Cond.code yX11_broke cX11_broke 10 (some .int) :: wTab) ({ frames := 4, cells := 0, slots := 0, locals := 110 }) (va_Pc [.ref h0, .int u1, .int u2, .int u3, .int u4] (PreW G (tys6 cI cJ cZ cD cR cT) (va_pl L f0) sz)) (QT (po_X11_broke kp L f0 h0 u1 u2 u3 u4) G cI cJ cZ cD cR cT (va_A (va_pl L f0) sz) kp L) 0 0 (va_A (va_pl L f0) sz) := by
  refine metT (by decide) (Nat.le_of_ble_eq_true rfl) hTH ?_
  intro p e s m below meth c A ls E hW hl
  obtain ⟨hx, hb, -, hml, hown, hts, -, -, -⟩ := id E
  have hF : FM kp L ms_X11_broke f0 f0 := FM.rf
  have hl : lv_has ls 10 [(0, .ref h0), (1, .int u1), (2, .int u2), (3, .int u3), (4, .int u4)] := hl
  refine lv_aload_n hx hb dX11_broke_0 rfl (lv_at hl 0 rfl) ?_
  refine fg_RX11_12 E hW rh0 dX11_broke_1 (fun a1 m2 r3 => ?_)
  refine fg_RX11_63 E hW r3 dX11_broke_4 (fun a4 m5 r6 => ?_)
  refine lv_astore (lv' := [(5, .ref a4), (0, .ref h0), (1, .int u1), (2, .int u2), (3, .int u3), (4, .int u4)]) hx hb dX11_broke_7 hl (by decide) rfl (fun ls hl => ?_)
  refine lv_aload hx hb dX11_broke_9 (lv_at hl 0 rfl) ?_
  refine lv_iload_n hx hb dX11_broke_11 rfl (lv_at hl 2 rfl) ?_
  refine t_callV (As := [.int u1]) (rest := []) E hW (c_X4_has l G cI cJ cZ cD cR cT kp L f0 hW.2.2.2 _ a4 u1 r6) r6 (by decide) rfl wk_X4_has tw_619 rfl ⟨Nat.le_of_ble_eq_true rfl, Nat.le_of_ble_eq_true rfl⟩ ⟨rfl, rfl⟩ hl.1 rfl (Nat.le_of_ble_eq_true rfl) dX11_broke_12 ⟨Nat.le_of_ble_eq_true rfl, Nat.le_of_ble_eq_true rfl⟩ (fun v7 f8 H locs q9 hW => ?_)
  obtain ⟨⟨x11, rfl, p12⟩, g10⟩ := q9
  have hF := FM.tr hF g10 rfl
  refine q_if_eq (tgt := 48) hx hb dX11_broke_15 (by decide) rfl (fun c13 => ?_) (fun c13 => ?_)
  · clear p12
    refine lv_iconst (v := (-1)) hx hb dX11_broke_48 (by decide) ?_
    exact e_I E hW rfl ⟨⟨_, rfl, trivial⟩, hF⟩ dX11_broke_49
  · have q14 : 0 ≤ u1.toInt ∧ u1.toInt ≤ 39 := by omega
    clear p12
    refine lv_aload hx hb dX11_broke_18 (lv_at hl 0 rfl) ?_
    refine fg_RX11_141 E hW r6 dX11_broke_20 (fun a15 m16 r17 => ?_)
    refine lv_iload_n hx hb dX11_broke_23 rfl (lv_at hl 2 rfl) ?_
    refine gl_348 E hW r17 ⟨by omega, by omega⟩ dX11_broke_24 (fun y18 m19 => ?_)
    refine q_if_eq (tgt := 48) hx hb dX11_broke_25 (by decide) rfl (fun c21 => ?_) (fun c21 => ?_)
    · refine lv_iconst (v := (-1)) hx hb dX11_broke_48 (by decide) ?_
      exact e_I E hW rfl ⟨⟨_, rfl, trivial⟩, hF⟩ dX11_broke_49
    · refine lv_iload_n hx hb dX11_broke_28 rfl (lv_at hl 3 rfl) ?_
      refine lv_iconst (v := 1) hx hb dX11_broke_29 (by decide) ?_
      refine lv_sipush (v := 10000) hx hb dX11_broke_30 (by decide) ?_
      refine t_callS (As := [.int u2, .int 1, .int 10000]) (rest := []) E hW (c_X11_within l G cI cJ cZ cD cR cT kp L f8 hW.2.2.2 _ u2 1 10000 (by decide)) wk_X11_within tw_599 rfl ⟨Nat.le_of_ble_eq_true rfl, Nat.le_of_ble_eq_true rfl⟩ ⟨rfl, rfl⟩ hl.1 rfl (Nat.le_of_ble_eq_true rfl) dX11_broke_33 ⟨Nat.le_of_ble_eq_true rfl, Nat.le_of_ble_eq_true rfl⟩ (fun v22 f23 H locs q24 hW => ?_)
      obtain ⟨⟨x26, rfl, p27⟩, g25⟩ := q24
      have p27 : (x26.toInt = 1 ∧ 1 ≤ u2.toInt ∧ u2.toInt ≤ 10000) ∨ (x26.toInt = 0 ∧ (u2.toInt < 1 ∨ 10000 < u2.toInt)) := p27
      have hF := FM.tr hF g25 rfl
      refine q_if_eq (tgt := 48) hx hb dX11_broke_36 (by decide) rfl (fun c28 => ?_) (fun c28 => ?_)
      · have q29 : (u2.toInt < 1 ∨ 10000 < u2.toInt) := by omega
        clear p27
        refine lv_iconst (v := (-1)) hx hb dX11_broke_48 (by decide) ?_
        exact e_I E hW rfl ⟨⟨_, rfl, trivial⟩, hF⟩ dX11_broke_49
      · have q30 : 1 ≤ u2.toInt ∧ u2.toInt ≤ 10000 := by omega
        clear p27
        refine lv_iload_n hx hb dX11_broke_39 rfl (lv_at hl 4 rfl) ?_
        refine lv_iconst (v := 0) hx hb dX11_broke_40 (by decide) ?_
        refine lv_iconst (v := 2) hx hb dX11_broke_41 (by decide) ?_
        refine t_callS (As := [.int u3, .int 0, .int 2]) (rest := []) E hW (c_X11_within l G cI cJ cZ cD cR cT kp L f23 hW.2.2.2 _ u3 0 2 (by decide)) wk_X11_within tw_599 rfl ⟨Nat.le_of_ble_eq_true rfl, Nat.le_of_ble_eq_true rfl⟩ ⟨rfl, rfl⟩ hl.1 rfl (Nat.le_of_ble_eq_true rfl) dX11_broke_42 ⟨Nat.le_of_ble_eq_true rfl, Nat.le_of_ble_eq_true rfl⟩ (fun v31 f32 H locs q33 hW => ?_)
        obtain ⟨⟨x35, rfl, p36⟩, g34⟩ := q33
        have p36 : (x35.toInt = 1 ∧ 0 ≤ u3.toInt ∧ u3.toInt ≤ 2) ∨ (x35.toInt = 0 ∧ (u3.toInt < 0 ∨ 2 < u3.toInt)) := p36
        have hF := FM.tr hF g34 rfl
        refine q_if_ne (tgt := 50) hx hb dX11_broke_45 (by decide) rfl (fun c37 => ?_) (fun c37 => ?_)
        · have q38 : 0 ≤ u3.toInt ∧ u3.toInt ≤ 2 := by omega
          clear p36
          refine lv_iconst (v := 0) hx hb dX11_broke_50 (by decide) ?_
          refine lv_istore (lv' := [(6, .int 0), (5, .ref a4), (0, .ref h0), (1, .int u1), (2, .int u2), (3, .int u3), (4, .int u4)]) hx hb dX11_broke_51 hl (by decide) rfl (fun ls hl => ?_)
          refine lv_iconst (v := (-1)) hx hb dX11_broke_53 (by decide) ?_
          refine lv_istore (lv' := [(7, .int (-1)), (6, .int 0), (5, .ref a4), (0, .ref h0), (1, .int u1), (2, .int u2), (3, .int u3), (4, .int u4)]) hx hb dX11_broke_54 hl (by decide) rfl (fun ls hl => ?_)
          refine lv_iload_n hx hb dX11_broke_56 rfl (lv_at hl 6 rfl) ?_
          refine lv_iconst (v := 2) hx hb dX11_broke_57 (by decide) ?_
          have J40 : ∀ (y39 : Int32) (H : Heap) (locs : List Loc) (ls : Array Slot), WS G cI cJ cZ cD cR cT A kp L f32 s H locs → FM kp L ms_X11_broke f0 f32 → lv_has ls 10 [(7, .int (-1)), (6, .int 0), (5, .ref a4), (0, .ref h0), (1, .int u1), (2, .int u2), (3, .int u3), (4, .int u4)] → W p l e ({ frames := 4, cells := 0, slots := 0, locals := 110 }) s m ([.ref h0, .int u1, .int u2, .int u3, .int u4] : List Value).toArray below meth c H locs 0 0 (MQ below (QT (po_X11_broke kp L f0 h0 u1 u2 u3 u4) G cI cJ cZ cD cR cT A kp L) ([.ref h0, .int u1, .int u2, .int u3, .int u4] : List Value).toArray s 0 0 A) (F0 m 67 ls [.int y39]) := by
            intro y39 H locs ls hW hF hl
            clear c13 c28 c37
            refine lv_istore (lv' := [(8, .int y39), (7, .int (-1)), (6, .int 0), (5, .ref a4), (0, .ref h0), (1, .int u1), (2, .int u2), (3, .int u3), (4, .int u4)]) hx hb dX11_broke_67 hl (by decide) rfl (fun ls hl => ?_)
            refine lv_iconst (v := 0) hx hb dX11_broke_69 (by decide) ?_
            refine lv_istore (lv' := [(9, .int 0), (8, .int y39), (7, .int (-1)), (6, .int 0), (5, .ref a4), (0, .ref h0), (1, .int u1), (2, .int u2), (3, .int u3), (4, .int u4)]) hx hb dX11_broke_70 hl (by decide) rfl (fun ls hl => ?_)
            have L3175 : ∀ (n : Nat), ∀ (f3166 : Nat → va_E) (y3170 : Int32) (y3172 : Int32) (y3174 : Int32) (m3167 : oR (f3166 a1) 0 = a4) (m3168 : oR (f3166 a4) 8 = a15) (m3169 : oR (f3166 h0) 0 = a1) (b3171 : (0 : Int) ≤ y3170.toInt ∧ y3170.toInt ≤ 40) (b3173 : (-1 : Int) ≤ y3172.toInt ∧ y3172.toInt ≤ 39) (hm : (41 : Int) - y3170.toInt ≤ n) (H : Heap) (locs : List Loc) (ls : Array Slot), WS G cI cJ cZ cD cR cT A kp L f3166 s H locs → FM kp L ms_X11_broke f0 f3166 → lv_has ls 10 [(9, .int y3170), (8, .int y39), (7, .int y3172), (6, .int y3174), (5, .ref a4), (0, .ref h0), (1, .int u1), (2, .int u2), (3, .int u3), (4, .int u4)] → W p l e ({ frames := 4, cells := 0, slots := 0, locals := 110 }) s m ([.ref h0, .int u1, .int u2, .int u3, .int u4] : List Value).toArray below meth c H locs 0 0 (MQ below (QT (po_X11_broke kp L f0 h0 u1 u2 u3 u4) G cI cJ cZ cD cR cT A kp L) ([.ref h0, .int u1, .int u2, .int u3, .int u4] : List Value).toArray s 0 0 A) (F0 m 72 ls []) := by
              intro n
              induction n with
              | zero =>
                intro f3166 y3170 y3172 y3174 m3167 m3168 m3169 b3171 b3173 hm H locs ls hW hF hl
                have hz := i32_b y3170
                exfalso; omega
              | succ n ih =>
                intro f3166 y3170 y3172 y3174 m3167 m3168 m3169 b3171 b3173 hm H locs ls hW hF hl
                clear c21
                have ih72 := ih
                refine lv_iload hx hb dX11_broke_72 (lv_at hl 0 rfl) ?_
                refine lv_aload hx hb dX11_broke_74 (lv_at hl 4 rfl) ?_
                refine fg_RX11_67 E hW r6 dX11_broke_76 (fun y3176 m3177 b3178 => ?_)
                refine q_icmp_ge (tgt := 129) hx hb dX11_broke_79 (by decide) rfl rfl (fun c3211 => ?_) (fun c3211 => ?_)
                · refine lv_iload_n hx hb dX11_broke_129 rfl (lv_at hl 8 rfl) ?_
                  refine lv_iconst (v := 1) hx hb dX11_broke_130 (by decide) ?_
                  refine q_icmp_ne (Y := 1) (tgt := 137) hx hb dX11_broke_131 (by decide) rfl rfl (fun c3212 => ?_) (fun c3212 => ?_)
                  · refine lv_iload_n hx hb dX11_broke_137 rfl (lv_at hl 8 rfl) ?_
                    have J3216 : ∀ (y3214 : Int32) (b3215 : (-1 : Int) ≤ y3214.toInt ∧ y3214.toInt ≤ 39) (H : Heap) (locs : List Loc) (ls : Array Slot), WS G cI cJ cZ cD cR cT A kp L f3166 s H locs → FM kp L ms_X11_broke f0 f3166 → lv_has ls 10 [(9, .int y3170), (8, .int y39), (7, .int y3172), (6, .int y3174), (5, .ref a4), (0, .ref h0), (1, .int u1), (2, .int u2), (3, .int u3), (4, .int u4)] → W p l e ({ frames := 4, cells := 0, slots := 0, locals := 110 }) s m ([.ref h0, .int u1, .int u2, .int u3, .int u4] : List Value).toArray below meth c H locs 0 0 (MQ below (QT (po_X11_broke kp L f0 h0 u1 u2 u3 u4) G cI cJ cZ cD cR cT A kp L) ([.ref h0, .int u1, .int u2, .int u3, .int u4] : List Value).toArray s 0 0 A) (F0 m 153 ls [.int y3214]) := by
                      intro y3214 b3215 H locs ls hW hF hl
                      exact e_I E hW rfl ⟨⟨_, rfl, trivial⟩, hF⟩ dX11_broke_153
                    refine q_if_ne (tgt := 151) hx hb dX11_broke_138 (by decide) rfl (fun c3217 => ?_) (fun c3217 => ?_)
                    · refine lv_iload hx hb dX11_broke_151 (lv_at hl 2 rfl) ?_
                      exact J3216 y3172 (by omega) _ _ _ hW hF (lv_sub hl [0, 1, 2, 3, 4, 5, 6, 7, 8, 9] rfl)
                    · refine lv_iload hx hb dX11_broke_141 (lv_at hl 3 rfl) ?_
                      refine lv_iconst (v := 1) hx hb dX11_broke_143 (by decide) ?_
                      refine q_icmp_eq (Y := 1) (tgt := 151) hx hb dX11_broke_144 (by decide) rfl rfl (fun c3218 => ?_) (fun c3218 => ?_)
                      · refine lv_iload hx hb dX11_broke_151 (lv_at hl 2 rfl) ?_
                        exact J3216 y3172 (by omega) _ _ _ hW hF (lv_sub hl [0, 1, 2, 3, 4, 5, 6, 7, 8, 9] rfl)
                      · refine lv_iconst (v := (-1)) hx hb dX11_broke_147 (by decide) ?_
                        refine lv_goto (tgt := 153) hx hb dX11_broke_148 (by decide) ?_
                        exact J3216 (-1) (by decide) _ _ _ hW hF (lv_sub hl [0, 1, 2, 3, 4, 5, 6, 7, 8, 9] rfl)
                  · refine lv_iload hx hb dX11_broke_134 (lv_at hl 3 rfl) ?_
                    exact e_I E hW rfl ⟨⟨_, rfl, trivial⟩, hF⟩ dX11_broke_136
                · refine lv_aload hx hb dX11_broke_82 (lv_at hl 4 rfl) ?_
                  refine lv_iload hx hb dX11_broke_84 (lv_at hl 0 rfl) ?_
                  refine lv_iload_n hx hb dX11_broke_86 rfl (lv_at hl 6 rfl) ?_
                  refine lv_iload_n hx hb dX11_broke_87 rfl (lv_at hl 7 rfl) ?_
                  refine lv_aload_n hx hb dX11_broke_88 rfl (lv_at hl 5 rfl) ?_
                  refine fg_RX11_12 E hW rh0 dX11_broke_89 (fun a3219 m3220 r3221 => ?_)
                  obtain rfl : a1 = a3219 := (m3169).symm.trans m3220
                  refine fg_RX11_98 E hW r3 dX11_broke_92 (fun a3222 m3223 r3224 => ?_)
                  refine fg_RX11_282 E hW r3224 dX11_broke_95 (fun y3225 m3226 => ?_)
                  refine t_callV (As := [.int y3170, .int u1, .int u2, .int y3225]) (rest := []) E hW (c_X4_maySell l G cI cJ cZ cD cR cT kp L f3166 hW.2.2.2 _ a4 y3170 u1 u2 y3225 r6 (by omega) (by omega) (by omega)) r6 (by decide) rfl wk_X4_maySell tw_1201 rfl ⟨Nat.le_of_ble_eq_true rfl, Nat.le_of_ble_eq_true rfl⟩ ⟨rfl, rfl⟩ hl.1 rfl (Nat.le_of_ble_eq_true rfl) dX11_broke_98 ⟨Nat.le_of_ble_eq_true rfl, Nat.le_of_ble_eq_true rfl⟩ (fun v3228 f3229 H locs q3230 hW => ?_)
                  obtain ⟨⟨x3232, rfl, p3233⟩, g3231⟩ := q3230
                  have hF := FM.tr hF g3231 rfl
                  have J3242 : ∀ (y3239 : Int32) (y3241 : Int32) (b3240 : (-1 : Int) ≤ y3239.toInt ∧ y3239.toInt ≤ 39) (H : Heap) (locs : List Loc) (ls : Array Slot), WS G cI cJ cZ cD cR cT A kp L f3229 s H locs → FM kp L ms_X11_broke f0 f3229 → lv_has ls 10 [(9, .int y3170), (8, .int y39), (7, .int y3239), (6, .int y3241), (5, .ref a4), (0, .ref h0), (1, .int u1), (2, .int u2), (3, .int u3), (4, .int u4)] → W p l e ({ frames := 4, cells := 0, slots := 0, locals := 110 }) s m ([.ref h0, .int u1, .int u2, .int u3, .int u4] : List Value).toArray below meth c H locs 0 0 (MQ below (QT (po_X11_broke kp L f0 h0 u1 u2 u3 u4) G cI cJ cZ cD cR cT A kp L) ([.ref h0, .int u1, .int u2, .int u3, .int u4] : List Value).toArray s 0 0 A) (F0 m 123 ls []) := by
                    intro y3239 y3241 b3240 H locs ls hW hF hl
                    clear b3173 p3233
                    refine q_iinc hx hb dX11_broke_123 hl (k := 0) rfl rfl rfl (by omega) (by decide) (fun i3243 ls h3244 hl => ?_)
                    have hl : lv_has ls 10 [(9, .int i3243), (8, .int y39), (7, .int y3239), (6, .int y3241), (5, .ref a4), (0, .ref h0), (1, .int u1), (2, .int u2), (3, .int u3), (4, .int u4)] := hl
                    refine lv_goto (tgt := 72) hx hb dX11_broke_126 (by decide) ?_
                    exact ih72 f3229 i3243 y3239 y3241 ((fm_R g3231 r3 rfl).trans m3167) ((fm_R g3231 r6 rfl).trans m3168) ((fm_R g3231 rh0 rfl).trans m3220) (by omega) (by omega) (by omega) _ _ _ hW hF (lv_sub hl [0, 1, 2, 3, 4, 5, 6, 7, 8, 9] rfl)
                  refine q_if_eq (tgt := 123) hx hb dX11_broke_101 (by decide) rfl (fun c3245 => ?_) (fun c3245 => ?_)
                  · exact J3242 y3172 y3174 (by omega) _ _ _ hW hF (lv_sub hl [0, 1, 2, 3, 4, 5, 6, 7, 8, 9] rfl)
                  · refine lv_iload hx hb dX11_broke_104 (lv_at hl 3 rfl) ?_
                    refine lv_iload hx hb dX11_broke_106 (lv_at hl 1 rfl) ?_
                    have J3248 : ∀ (y3246 : Int32) (b3247 : (-1 : Int) ≤ y3246.toInt ∧ y3246.toInt ≤ 39) (H : Heap) (locs : List Loc) (ls : Array Slot), WS G cI cJ cZ cD cR cT A kp L f3229 s H locs → FM kp L ms_X11_broke f0 f3229 → lv_has ls 10 [(9, .int y3170), (8, .int y39), (7, .int y3172), (6, .int y3174), (5, .ref a4), (0, .ref h0), (1, .int u1), (2, .int u2), (3, .int u3), (4, .int u4)] → W p l e ({ frames := 4, cells := 0, slots := 0, locals := 110 }) s m ([.ref h0, .int u1, .int u2, .int u3, .int u4] : List Value).toArray below meth c H locs 0 0 (MQ below (QT (po_X11_broke kp L f0 h0 u1 u2 u3 u4) G cI cJ cZ cD cR cT A kp L) ([.ref h0, .int u1, .int u2, .int u3, .int u4] : List Value).toArray s 0 0 A) (F0 m 118 ls [.int y3246]) := by
                      intro y3246 b3247 H locs ls hW hF hl
                      clear p3233 c3245
                      refine lv_istore (lv' := [(7, .int y3246), (9, .int y3170), (8, .int y39), (6, .int y3174), (5, .ref a4), (0, .ref h0), (1, .int u1), (2, .int u2), (3, .int u3), (4, .int u4)]) hx hb dX11_broke_118 hl (by decide) rfl (fun ls hl => ?_)
                      refine u_iinc hx hb dX11_broke_120 hl (k := 3) rfl (by decide) (fun i3249 ls hl => ?_)
                      have hl : lv_has ls 10 [(6, .int i3249), (7, .int y3246), (9, .int y3170), (8, .int y39), (5, .ref a4), (0, .ref h0), (1, .int u1), (2, .int u2), (3, .int u3), (4, .int u4)] := hl
                      exact J3242 y3246 i3249 (by omega) _ _ _ hW hF (lv_sub hl [2, 3, 1, 0, 4, 5, 6, 7, 8, 9] rfl)
                    refine q_icmp_ne (tgt := 116) hx hb dX11_broke_108 (by decide) rfl rfl (fun c3250 => ?_) (fun c3250 => ?_)
                    · refine lv_iload hx hb dX11_broke_116 (lv_at hl 2 rfl) ?_
                      exact J3248 y3172 (by omega) _ _ _ hW hF (lv_sub hl [0, 1, 2, 3, 4, 5, 6, 7, 8, 9] rfl)
                    · refine lv_iload hx hb dX11_broke_111 (lv_at hl 0 rfl) ?_
                      refine lv_goto (tgt := 118) hx hb dX11_broke_113 (by decide) ?_
                      exact J3248 y3170 (by omega) _ _ _ hW hF (lv_sub hl [0, 1, 2, 3, 4, 5, 6, 7, 8, 9] rfl)
            have hk3251 : (0 : Int32).toInt = 0 := rfl
            have hk3252 : ((-1) : Int32).toInt = -1 := rfl
            have hk3253 : (0 : Int32).toInt = 0 := rfl
            exact L3175 41 f32 0 (-1) 0 ((fm_R g34 r3 rfl).trans ((fm_R g25 r3 rfl).trans ((fm_R g10 r3 rfl).trans m5))) ((fm_R g34 r6 rfl).trans ((fm_R g25 r6 rfl).trans m16)) ((fm_R g34 rh0 rfl).trans ((fm_R g25 rh0 rfl).trans ((fm_R g10 rh0 rfl).trans m2))) (by decide) (by decide) (by omega) _ _ _ hW hF (lv_sub hl [0, 1, 2, 3, 4, 5, 6, 7, 8, 9] rfl)
          refine q_icmp_ne (Y := 2) (tgt := 66) hx hb dX11_broke_58 (by decide) rfl rfl (fun c3254 => ?_) (fun c3254 => ?_)
          · refine lv_iconst (v := 0) hx hb dX11_broke_66 (by decide) ?_
            exact J40 0  _ _ _ hW hF (lv_sub hl [0, 1, 2, 3, 4, 5, 6, 7] rfl)
          · refine lv_iload hx hb dX11_broke_61 (lv_at hl 7 rfl) ?_
            refine lv_goto (tgt := 67) hx hb dX11_broke_63 (by decide) ?_
            exact J40 u4  _ _ _ hW hF (lv_sub hl [0, 1, 2, 3, 4, 5, 6, 7] rfl)
        · have q3255 : (u3.toInt < 0 ∨ 2 < u3.toInt) := by omega
          clear p36
          refine lv_iconst (v := (-1)) hx hb dX11_broke_48 (by decide) ?_
          exact e_I E hW rfl ⟨⟨_, rfl, trivial⟩, hF⟩ dX11_broke_49
def ms_X11_canGo : List (Nat × Nat) := []
def po_X11_canGo (kp : Nat → Nat) (L : List Nat) (f0 : Nat → va_E) (h0 : Nat) (u1 : Int32) : Option Value → (Nat → va_E) → Prop := fun v f => (∃ r : Int32, v = some (.int r) ∧ ((r.toInt = 1 ∧ 1 ≤ u1.toInt ∧ u1.toInt ≤ 104) ∨ r.toInt = 0)) ∧ FM kp L ms_X11_canGo f0 f
set_option maxHeartbeats 4000000 in
set_option maxRecDepth 100000 in
theorem c_X11_canGo (l : Launch) (G : va_G) (cI cJ cZ cD cR cT : ClassId) (kp : Nat → Nat) (L : List Nat) (f0 : Nat → va_E) (hTH : TH cI cJ cZ cD cR cT kp L f0) (sz : Nat) (h0 : Nat) (u1 : Int32) (rh0 : RK kp L h0 11) : Met l yX11_canGo (Cond.code yX11_canGo cX11_canGo 2 (some .boolean) :: wTab) ({ frames := 2, cells := 0, slots := 0, locals := 62 }) (va_Pc [.ref h0, .int u1] (PreW G (tys6 cI cJ cZ cD cR cT) (va_pl L f0) sz)) (QT (po_X11_canGo kp L f0 h0 u1) G cI cJ cZ cD cR cT (va_A (va_pl L f0) sz) kp L) 0 0 (va_A (va_pl L f0) sz) := by
  refine metT (by decide) (Nat.le_of_ble_eq_true rfl) hTH ?_
  intro p e s m below meth c A ls E hW hl
  obtain ⟨hx, hb, -, hml, hown, hts, -, -, -⟩ := id E
  have hF : FM kp L ms_X11_canGo f0 f0 := FM.rf
  have hl : lv_has ls 2 [(0, .ref h0), (1, .int u1)] := hl
  refine lv_iload_n hx hb dX11_canGo_0 rfl (lv_at hl 1 rfl) ?_
  refine lv_iconst (v := 1) hx hb dX11_canGo_1 (by decide) ?_
  refine lv_bipush (v := 104) hx hb dX11_canGo_2 (by decide) ?_
  refine t_callS (As := [.int u1, .int 1, .int 104]) (rest := []) E hW (c_X11_within l G cI cJ cZ cD cR cT kp L f0 hW.2.2.2 _ u1 1 104 (by decide)) wk_X11_within tw_599 rfl ⟨Nat.le_of_ble_eq_true rfl, Nat.le_of_ble_eq_true rfl⟩ ⟨rfl, rfl⟩ hl.1 rfl (Nat.le_of_ble_eq_true rfl) dX11_canGo_4 ⟨Nat.le_of_ble_eq_true rfl, Nat.le_of_ble_eq_true rfl⟩ (fun v1 f2 H locs q3 hW => ?_)
  obtain ⟨⟨x5, rfl, p6⟩, g4⟩ := q3
  have p6 : (x5.toInt = 1 ∧ 1 ≤ u1.toInt ∧ u1.toInt ≤ 104) ∨ (x5.toInt = 0 ∧ (u1.toInt < 1 ∨ 104 < u1.toInt)) := p6
  have hF := FM.tr hF g4 rfl
  refine q_if_eq (tgt := 29) hx hb dX11_canGo_7 (by decide) rfl (fun c7 => ?_) (fun c7 => ?_)
  · have q8 : (u1.toInt < 1 ∨ 104 < u1.toInt) := by omega
    clear p6
    refine lv_iconst (v := 0) hx hb dX11_canGo_29 (by decide) ?_
    exact e_Z E hW rfl (by decide) ⟨⟨_, rfl, (by have hk : (0 : Int32).toInt = 0 := rfl; first | decide | omega)⟩, hF⟩ dX11_canGo_30
  · have q9 : 1 ≤ u1.toInt ∧ u1.toInt ≤ 104 := by omega
    clear p6
    refine lv_aload_n hx hb dX11_canGo_10 rfl (lv_at hl 0 rfl) ?_
    refine fg_RX11_12 E hW rh0 dX11_canGo_11 (fun a10 m11 r12 => ?_)
    refine fg_RX11_255 E hW r12 dX11_canGo_14 (fun y13 m14 b15 => ?_)
    refine lv_iload_n hx hb dX11_canGo_17 rfl (lv_at hl 1 rfl) ?_
    refine q_iadd hx hb dX11_canGo_18 rfl rfl (by omega) (fun x16 h17 => ?_)
    refine lv_sipush (v := 399) hx hb dX11_canGo_19 (by decide) ?_
    refine q_icmp_gt (Y := 399) (tgt := 29) hx hb dX11_canGo_22 (by decide) rfl rfl (fun c18 => ?_) (fun c18 => ?_)
    · refine lv_iconst (v := 0) hx hb dX11_canGo_29 (by decide) ?_
      exact e_Z E hW rfl (by decide) ⟨⟨_, rfl, (by have hk : (0 : Int32).toInt = 0 := rfl; first | decide | omega)⟩, hF⟩ dX11_canGo_30
    · refine lv_iconst (v := 1) hx hb dX11_canGo_25 (by decide) ?_
      refine lv_goto (tgt := 30) hx hb dX11_canGo_26 (by decide) ?_
      exact e_Z E hW rfl (by decide) ⟨⟨_, rfl, (by have hk : (1 : Int32).toInt = 1 := rfl; first | decide | omega)⟩, hF⟩ dX11_canGo_30
def ms_X11_canChoose : List (Nat × Nat) := []
def po_X11_canChoose (kp : Nat → Nat) (L : List Nat) (f0 : Nat → va_E) (h0 : Nat) (u1 : Int32) : Option Value → (Nat → va_E) → Prop := fun v f => (∃ r : Int32, v = some (.int r) ∧ ((0 : Int) ≤ r.toInt ∧ r.toInt ≤ 1)) ∧ FM kp L ms_X11_canChoose f0 f
set_option maxHeartbeats 4000000 in
set_option maxRecDepth 100000 in
theorem c_X11_canChoose (l : Launch) (G : va_G) (cI cJ cZ cD cR cT : ClassId) (kp : Nat → Nat) (L : List Nat) (f0 : Nat → va_E) (hTH : TH cI cJ cZ cD cR cT kp L f0) (sz : Nat) (h0 : Nat) (u1 : Int32) (rh0 : RK kp L h0 11) : Met l yX11_canChoose (Cond.code yX11_canChoose cX11_canChoose 3 (some .boolean) :: wTab) ({ frames := 3, cells := 0, slots := 0, locals := 83 }) (va_Pc [.ref h0, .int u1] (PreW G (tys6 cI cJ cZ cD cR cT) (va_pl L f0) sz)) (QT (po_X11_canChoose kp L f0 h0 u1) G cI cJ cZ cD cR cT (va_A (va_pl L f0) sz) kp L) 0 0 (va_A (va_pl L f0) sz) := by
  refine metT (by decide) (Nat.le_of_ble_eq_true rfl) hTH ?_
  intro p e s m below meth c A ls E hW hl
  obtain ⟨hx, hb, -, hml, hown, hts, -, -, -⟩ := id E
  have hF : FM kp L ms_X11_canChoose f0 f0 := FM.rf
  have hl : lv_has ls 3 [(0, .ref h0), (1, .int u1)] := hl
  refine lv_aload_n hx hb dX11_canChoose_0 rfl (lv_at hl 0 rfl) ?_
  refine lv_iload_n hx hb dX11_canChoose_1 rfl (lv_at hl 1 rfl) ?_
  refine t_callV (As := [.int u1]) (rest := []) E hW (c_X11_canGo l G cI cJ cZ cD cR cT kp L f0 hW.2.2.2 _ h0 u1 rh0) rh0 (by decide) rfl wk_X11_canGo tw_1110 rfl ⟨Nat.le_of_ble_eq_true rfl, Nat.le_of_ble_eq_true rfl⟩ ⟨rfl, rfl⟩ hl.1 rfl (Nat.le_of_ble_eq_true rfl) dX11_canChoose_2 ⟨Nat.le_of_ble_eq_true rfl, Nat.le_of_ble_eq_true rfl⟩ (fun v1 f2 H locs q3 hW => ?_)
  obtain ⟨⟨x5, rfl, p6⟩, g4⟩ := q3
  have hF := FM.tr hF g4 rfl
  refine q_if_eq (tgt := 15) hx hb dX11_canChoose_5 (by decide) rfl (fun c7 => ?_) (fun c7 => ?_)
  · clear p6
    refine lv_iconst (v := 0) hx hb dX11_canChoose_15 (by decide) ?_
    exact e_Z E hW rfl (by decide) ⟨⟨_, rfl, (by have hk : (0 : Int32).toInt = 0 := rfl; first | decide | omega)⟩, hF⟩ dX11_canChoose_16
  · have q8 : 1 ≤ u1.toInt ∧ u1.toInt ≤ 104 := by omega
    clear p6
    refine lv_aload_n hx hb dX11_canChoose_8 rfl (lv_at hl 0 rfl) ?_
    refine fg_RX11_312 E hW rh0 dX11_canChoose_9 (fun y9 m10 b11 => ?_)
    refine q_if_ne (tgt := 17) hx hb dX11_canChoose_12 (by decide) rfl (fun c12 => ?_) (fun c12 => ?_)
    · refine lv_iconst (v := 0) hx hb dX11_canChoose_17 (by decide) ?_
      refine lv_istore_n (lv' := [(2, .int 0), (0, .ref h0), (1, .int u1)]) hx hb dX11_canChoose_18 rfl hl (by decide) rfl (fun ls hl => ?_)
      have L255 : ∀ (n : Nat), ∀ (f251 : Nat → va_E) (y253 : Int32) (m252 : oI (f251 h0) 12 = y9) (b254 : (0 : Int) ≤ y253.toInt ∧ y253.toInt ≤ 6) (hm : (7 : Int) - y253.toInt ≤ n) (H : Heap) (locs : List Loc) (ls : Array Slot), WS G cI cJ cZ cD cR cT A kp L f251 s H locs → FM kp L ms_X11_canChoose f0 f251 → lv_has ls 3 [(2, .int y253), (0, .ref h0), (1, .int u1)] → W p l e ({ frames := 3, cells := 0, slots := 0, locals := 83 }) s m ([.ref h0, .int u1] : List Value).toArray below meth c H locs 0 0 (MQ below (QT (po_X11_canChoose kp L f0 h0 u1) G cI cJ cZ cD cR cT A kp L) ([.ref h0, .int u1] : List Value).toArray s 0 0 A) (F0 m 19 ls []) := by
        intro n
        induction n with
        | zero =>
          intro f251 y253 m252 b254 hm H locs ls hW hF hl
          have hz := i32_b y253
          exfalso; omega
        | succ n ih =>
          intro f251 y253 m252 b254 hm H locs ls hW hF hl
          clear c7
          have ih19 := ih
          refine lv_iload_n hx hb dX11_canChoose_19 rfl (lv_at hl 0 rfl) ?_
          refine lv_aload_n hx hb dX11_canChoose_20 rfl (lv_at hl 1 rfl) ?_
          refine fg_RX11_309 E hW rh0 dX11_canChoose_21 (fun y256 m257 b258 => ?_)
          refine q_icmp_ge (tgt := 54) hx hb dX11_canChoose_24 (by decide) rfl rfl (fun c259 => ?_) (fun c259 => ?_)
          · refine lv_iconst (v := 1) hx hb dX11_canChoose_54 (by decide) ?_
            exact e_Z E hW rfl (by decide) ⟨⟨_, rfl, (by have hk : (1 : Int32).toInt = 1 := rfl; first | decide | omega)⟩, hF⟩ dX11_canChoose_55
          · refine lv_aload_n hx hb dX11_canChoose_27 rfl (lv_at hl 1 rfl) ?_
            refine fg_RX11_12 E hW rh0 dX11_canChoose_28 (fun a260 m261 r262 => ?_)
            refine fg_RX11_114 E hW r262 dX11_canChoose_31 (fun a263 m264 r265 => ?_)
            refine lv_aload_n hx hb dX11_canChoose_34 rfl (lv_at hl 1 rfl) ?_
            refine fg_RX11_41 E hW rh0 dX11_canChoose_35 (fun a266 m267 r268 => ?_)
            refine lv_iload_n hx hb dX11_canChoose_38 rfl (lv_at hl 0 rfl) ?_
            refine gl_768 E hW r268 ⟨by omega, by omega⟩ dX11_canChoose_39 (fun y269 m270 b271 => ?_)
            refine t_callV (As := [.int y269]) (rest := []) E hW (c_X1_has l G cI cJ cZ cD cR cT kp L f251 hW.2.2.2 _ a263 y269 r265) r265 (by decide) rfl wk_X1_has tw_683 rfl ⟨Nat.le_of_ble_eq_true rfl, Nat.le_of_ble_eq_true rfl⟩ ⟨rfl, rfl⟩ hl.1 rfl (Nat.le_of_ble_eq_true rfl) dX11_canChoose_40 ⟨Nat.le_of_ble_eq_true rfl, Nat.le_of_ble_eq_true rfl⟩ (fun v272 f273 H locs q274 hW => ?_)
            obtain ⟨⟨x276, rfl, p277⟩, g275⟩ := q274
            have hF := FM.tr hF g275 rfl
            refine q_if_ne (tgt := 48) hx hb dX11_canChoose_43 (by decide) rfl (fun c278 => ?_) (fun c278 => ?_)
            · have q279 : 0 ≤ y269.toInt ∧ y269.toInt ≤ 39 := by omega
              clear p277
              refine q_iinc hx hb dX11_canChoose_48 hl (k := 0) rfl rfl rfl (by omega) (by decide) (fun i280 ls h281 hl => ?_)
              have hl : lv_has ls 3 [(2, .int i280), (0, .ref h0), (1, .int u1)] := hl
              refine lv_goto (tgt := 19) hx hb dX11_canChoose_51 (by decide) ?_
              exact ih19 f273 i280 ((fm_I g275 rh0 rfl).trans m252) (by omega) (by omega) _ _ _ hW hF (lv_sub hl [0, 1, 2] rfl)
            · clear p277
              refine lv_iconst (v := 0) hx hb dX11_canChoose_46 (by decide) ?_
              exact e_Z E hW rfl (by decide) ⟨⟨_, rfl, (by have hk : (0 : Int32).toInt = 0 := rfl; first | decide | omega)⟩, hF⟩ dX11_canChoose_47
      have hk282 : (0 : Int32).toInt = 0 := rfl
      exact L255 7 f2 0 m10 (by decide) (by omega) _ _ _ hW hF (lv_sub hl [0, 1, 2] rfl)
    · refine lv_iconst (v := 0) hx hb dX11_canChoose_15 (by decide) ?_
      exact e_Z E hW rfl (by decide) ⟨⟨_, rfl, (by have hk : (0 : Int32).toInt = 0 := rfl; first | decide | omega)⟩, hF⟩ dX11_canChoose_16
def ms_X11_worstOf : List (Nat × Nat) := [(0, 6), (0, 9), (0, 10), (0, 11), (0, 12), (0, 13), (0, 14), (1, 0), (1, 8), (1, 12), (1, 13), (1, 14), (2, 0), (3, 0), (3, 1), (3, 2), (3, 3), (4, 0), (10, 0), (10, 7), (108, 0), (115, 0), (161, 0), (162, 0), (163, 0), (164, 0), (165, 0), (166, 0), (167, 0), (169, 0), (170, 0), (171, 0), (221, 0), (222, 0), (223, 0), (284, 0), (285, 0), (341, 0), (342, 0), (343, 0), (344, 0), (345, 0), (346, 0), (347, 0), (348, 0), (349, 0), (520, 0), (521, 0), (701, 0), (702, 0), (703, 0), (704, 0), (705, 0), (706, 0), (708, 0), (709, 0), (710, 0)]
def po_X11_worstOf (kp : Nat → Nat) (L : List Nat) (f0 : Nat → va_E) (h0 : Nat) (u1 : Int32) (u2 : Int32) (u3 : Int32) : Option Value → (Nat → va_E) → Prop := fun v f => (∃ r : Int32, v = some (.int r) ∧ ((0 : Int) ≤ r.toInt)) ∧ FM kp L ms_X11_worstOf f0 f
set_option maxHeartbeats 4000000 in
set_option maxRecDepth 100000 in
theorem c_X11_worstOf (l : Launch) (G : va_G) (cI cJ cZ cD cR cT : ClassId) (kp : Nat → Nat) (L : List Nat) (f0 : Nat → va_E) (hTH : TH cI cJ cZ cD cR cT kp L f0) (sz : Nat) (h0 : Nat) (u1 : Int32) (u2 : Int32) (u3 : Int32) (rh0 : RK kp L h0 11) (pu3 : (1 : Int) ≤ u3.toInt ∧ u3.toInt ≤ 41) : Met l yX11_worstOf (Cond.code yX11_worstOf cX11_worstOf 7 (some .int) :: wTab) ({ frames := 7, cells := 0, slots := 0, locals := 191 }) (va_Pc [.ref h0, .int u1, .int u2, .int u3] (PreW G (tys6 cI cJ cZ cD cR cT) (va_pl L f0) sz)) (QT (po_X11_worstOf kp L f0 h0 u1 u2 u3) G cI cJ cZ cD cR cT (va_A (va_pl L f0) sz) kp L) 0 0 (va_A (va_pl L f0) sz) := by
  refine metT (by decide) (Nat.le_of_ble_eq_true rfl) hTH ?_
  intro p e s m below meth c A ls E hW hl
  obtain ⟨hx, hb, -, hml, hown, hts, -, -, -⟩ := id E
  have hF : FM kp L ms_X11_worstOf f0 f0 := FM.rf
  have hl : lv_has ls 7 [(0, .ref h0), (1, .int u1), (2, .int u2), (3, .int u3)] := hl
  refine lv_iconst (v := 0) hx hb dX11_worstOf_0 (by decide) ?_
  refine lv_istore (lv' := [(4, .int 0), (0, .ref h0), (1, .int u1), (2, .int u2), (3, .int u3)]) hx hb dX11_worstOf_1 hl (by decide) rfl (fun ls hl => ?_)
  refine lv_iconst (v := 0) hx hb dX11_worstOf_3 (by decide) ?_
  refine lv_istore (lv' := [(5, .int 0), (4, .int 0), (0, .ref h0), (1, .int u1), (2, .int u2), (3, .int u3)]) hx hb dX11_worstOf_4 hl (by decide) rfl (fun ls hl => ?_)
  have L7978 : ∀ (n : Nat), ∀ (f7973 : Nat → va_E) (y7974 : Int32) (y7976 : Int32) (b7975 : (0 : Int) ≤ y7974.toInt ∧ y7974.toInt ≤ 3) (b7977 : (0 : Int) ≤ y7976.toInt) (hm : (4 : Int) - y7974.toInt ≤ n) (H : Heap) (locs : List Loc) (ls : Array Slot), WS G cI cJ cZ cD cR cT A kp L f7973 s H locs → FM kp L ms_X11_worstOf f0 f7973 → lv_has ls 7 [(5, .int y7974), (4, .int y7976), (0, .ref h0), (1, .int u1), (2, .int u2), (3, .int u3)] → W p l e ({ frames := 7, cells := 0, slots := 0, locals := 191 }) s m ([.ref h0, .int u1, .int u2, .int u3] : List Value).toArray below meth c H locs 0 0 (MQ below (QT (po_X11_worstOf kp L f0 h0 u1 u2 u3) G cI cJ cZ cD cR cT A kp L) ([.ref h0, .int u1, .int u2, .int u3] : List Value).toArray s 0 0 A) (F0 m 6 ls []) := by
    intro n
    induction n with
    | zero =>
      intro f7973 y7974 y7976 b7975 b7977 hm H locs ls hW hF hl
      have hz := i32_b y7974
      exfalso; omega
    | succ n ih =>
      intro f7973 y7974 y7976 b7975 b7977 hm H locs ls hW hF hl
      have ih6 := ih
      refine lv_iload hx hb dX11_worstOf_6 (lv_at hl 0 rfl) ?_
      refine lv_aload_n hx hb dX11_worstOf_8 rfl (lv_at hl 2 rfl) ?_
      refine fg_RX11_312 E hW rh0 dX11_worstOf_9 (fun y7979 m7980 b7981 => ?_)
      have J9966 : ∀ (H : Heap) (locs : List Loc) (ls : Array Slot), WS G cI cJ cZ cD cR cT A kp L f7973 s H locs → FM kp L ms_X11_worstOf f0 f7973 → lv_has ls 7 [(5, .int y7974), (4, .int y7976), (0, .ref h0), (1, .int u1), (2, .int u2), (3, .int u3)] → W p l e ({ frames := 7, cells := 0, slots := 0, locals := 191 }) s m ([.ref h0, .int u1, .int u2, .int u3] : List Value).toArray below meth c H locs 0 0 (MQ below (QT (po_X11_worstOf kp L f0 h0 u1 u2 u3) G cI cJ cZ cD cR cT A kp L) ([.ref h0, .int u1, .int u2, .int u3] : List Value).toArray s 0 0 A) (F0 m 145 ls []) := by
        intro  H locs ls hW hF hl
        refine lv_iload hx hb dX11_worstOf_145 (lv_at hl 1 rfl) ?_
        exact e_I E hW rfl ⟨⟨_, rfl, (by first | omega | trivial)⟩, hF⟩ dX11_worstOf_147
      refine q_icmp_ge (tgt := 145) hx hb dX11_worstOf_12 (by decide) rfl rfl (fun c9967 => ?_) (fun c9967 => ?_)
      · exact J9966   _ _ _ hW hF (lv_sub hl [0, 1, 2, 3, 4, 5] rfl)
      · refine lv_iload hx hb dX11_worstOf_15 (lv_at hl 1 rfl) ?_
        refine lv_iload_n hx hb dX11_worstOf_17 rfl (lv_at hl 5 rfl) ?_
        refine q_icmp_ge (tgt := 145) hx hb dX11_worstOf_18 (by decide) rfl rfl (fun c9968 => ?_) (fun c9968 => ?_)
        · exact J9966   _ _ _ hW hF (lv_sub hl [0, 1, 2, 3, 4, 5] rfl)
        · refine lv_aload_n hx hb dX11_worstOf_21 rfl (lv_at hl 2 rfl) ?_
          refine fg_RX11_18 E hW rh0 dX11_worstOf_22 (fun a9969 m9970 r9971 => ?_)
          refine lv_aload_n hx hb dX11_worstOf_25 rfl (lv_at hl 2 rfl) ?_
          refine fg_RX11_12 E hW rh0 dX11_worstOf_26 (fun a9972 m9973 r9974 => ?_)
          refine t_callV (As := [.ref a9972]) (rest := []) E hW (c_X0_copyFrom l G cI cJ cZ cD cR cT kp L f7973 hW.2.2.2 _ a9969 a9972 r9971 r9974) r9971 (by decide) rfl wk_X0_copyFrom tw_1285 rfl ⟨Nat.le_of_ble_eq_true rfl, Nat.le_of_ble_eq_true rfl⟩ ⟨rfl, rfl⟩ hl.1 rfl (Nat.le_of_ble_eq_true rfl) dX11_worstOf_29 ⟨Nat.le_of_ble_eq_true rfl, Nat.le_of_ble_eq_true rfl⟩ (fun v9975 f9976 H locs q9977 hW => ?_)
          obtain ⟨rfl, g9978⟩ := q9977
          have hF := FM.tr hF g9978 rfl
          refine lv_aload_n hx hb dX11_worstOf_32 rfl (lv_at hl 2 rfl) ?_
          refine fg_RX11_18 E hW rh0 dX11_worstOf_33 (fun a9979 m9980 r9981 => ?_)
          obtain rfl : a9969 = a9979 := (((fm_R g9978 rh0 rfl).trans m9970)).symm.trans m9980
          refine lv_aload_n hx hb dX11_worstOf_36 rfl (lv_at hl 2 rfl) ?_
          refine fg_RX11_45 E hW rh0 dX11_worstOf_37 (fun a9982 m9983 r9984 => ?_)
          refine lv_iload hx hb dX11_worstOf_40 (lv_at hl 0 rfl) ?_
          refine gl_770 E hW r9984 ⟨by omega, by omega⟩ dX11_worstOf_42 (fun y9985 m9986 => ?_)
          refine lv_aload_n hx hb dX11_worstOf_43 rfl (lv_at hl 2 rfl) ?_
          refine fg_RX11_48 E hW rh0 dX11_worstOf_44 (fun a9988 m9989 r9990 => ?_)
          refine lv_iload hx hb dX11_worstOf_47 (lv_at hl 0 rfl) ?_
          refine gl_771 E hW r9990 ⟨by omega, by omega⟩ dX11_worstOf_49 (fun y9991 m9992 => ?_)
          refine t_callV (As := [.int y9985, .int y9991]) (rest := []) E hW (c_X0_tellCrops l G cI cJ cZ cD cR cT kp L f9976 hW.2.2.2 _ a9969 y9985 y9991 r9971) r9971 (by decide) rfl wk_X0_tellCrops tw_1318 rfl ⟨Nat.le_of_ble_eq_true rfl, Nat.le_of_ble_eq_true rfl⟩ ⟨rfl, rfl⟩ hl.1 rfl (Nat.le_of_ble_eq_true rfl) dX11_worstOf_50 ⟨Nat.le_of_ble_eq_true rfl, Nat.le_of_ble_eq_true rfl⟩ (fun v9994 f9995 H locs q9996 hW => ?_)
          obtain ⟨rfl, g9997⟩ := q9996
          have hF := FM.tr hF g9997 rfl
          refine lv_iconst (v := 0) hx hb dX11_worstOf_53 (by decide) ?_
          refine lv_istore (lv' := [(6, .int 0), (5, .int y7974), (4, .int y7976), (0, .ref h0), (1, .int u1), (2, .int u2), (3, .int u3)]) hx hb dX11_worstOf_54 hl (by decide) rfl (fun ls hl => ?_)
          have L10237 : ∀ (n : Nat), ∀ (f10229 : Nat → va_E) (y10235 : Int32) (m10230 : oR (f10229 h0) 0 = a9972) (m10231 : oR (f10229 h0) 1 = a9969) (m10232 : oR (f10229 h0) 10 = a9982) (m10233 : oR (f10229 h0) 11 = a9988) (m10234 : oI (f10229 h0) 12 = y7979) (b10236 : (0 : Int) ≤ y10235.toInt ∧ y10235.toInt ≤ 6) (hm : (7 : Int) - y10235.toInt ≤ n) (H : Heap) (locs : List Loc) (ls : Array Slot), WS G cI cJ cZ cD cR cT A kp L f10229 s H locs → FM kp L ms_X11_worstOf f0 f10229 → lv_has ls 7 [(6, .int y10235), (5, .int y7974), (4, .int y7976), (0, .ref h0), (1, .int u1), (2, .int u2), (3, .int u3)] → W p l e ({ frames := 7, cells := 0, slots := 0, locals := 191 }) s m ([.ref h0, .int u1, .int u2, .int u3] : List Value).toArray below meth c H locs 0 0 (MQ below (QT (po_X11_worstOf kp L f0 h0 u1 u2 u3) G cI cJ cZ cD cR cT A kp L) ([.ref h0, .int u1, .int u2, .int u3] : List Value).toArray s 0 0 A) (F0 m 56 ls []) := by
            intro n
            induction n with
            | zero =>
              intro f10229 y10235 m10230 m10231 m10232 m10233 m10234 b10236 hm H locs ls hW hF hl
              have hz := i32_b y10235
              exfalso; omega
            | succ n ih =>
              intro f10229 y10235 m10230 m10231 m10232 m10233 m10234 b10236 hm H locs ls hW hF hl
              have ih56 := ih
              refine lv_iload hx hb dX11_worstOf_56 (lv_at hl 0 rfl) ?_
              refine lv_aload_n hx hb dX11_worstOf_58 rfl (lv_at hl 3 rfl) ?_
              refine fg_RX11_309 E hW rh0 dX11_worstOf_59 (fun y10238 m10239 b10240 => ?_)
              refine q_icmp_ge (tgt := 92) hx hb dX11_worstOf_62 (by decide) rfl rfl (fun c10262 => ?_) (fun c10262 => ?_)
              · refine lv_iconst (v := 0) hx hb dX11_worstOf_92 (by decide) ?_
                refine lv_istore (lv' := [(6, .int 0), (5, .int y7974), (4, .int y7976), (0, .ref h0), (1, .int u1), (2, .int u2), (3, .int u3)]) hx hb dX11_worstOf_93 hl (by decide) rfl (fun ls hl => ?_)
                have L11885 : ∀ (n : Nat), ∀ (f11876 : Nat → va_E) (y11883 : Int32) (m11877 : oR (f11876 h0) 0 = a9972) (m11878 : oR (f11876 h0) 1 = a9969) (m11879 : oI (f11876 h0) 9 = y10238) (m11880 : oR (f11876 h0) 10 = a9982) (m11881 : oR (f11876 h0) 11 = a9988) (m11882 : oI (f11876 h0) 12 = y7979) (b11884 : (0 : Int) ≤ y11883.toInt) (hm : (2147483648 : Int) - y11883.toInt ≤ n) (H : Heap) (locs : List Loc) (ls : Array Slot), WS G cI cJ cZ cD cR cT A kp L f11876 s H locs → FM kp L ms_X11_worstOf f0 f11876 → lv_has ls 7 [(6, .int y11883), (5, .int y7974), (4, .int y7976), (0, .ref h0), (1, .int u1), (2, .int u2), (3, .int u3)] → W p l e ({ frames := 7, cells := 0, slots := 0, locals := 191 }) s m ([.ref h0, .int u1, .int u2, .int u3] : List Value).toArray below meth c H locs 0 0 (MQ below (QT (po_X11_worstOf kp L f0 h0 u1 u2 u3) G cI cJ cZ cD cR cT A kp L) ([.ref h0, .int u1, .int u2, .int u3] : List Value).toArray s 0 0 A) (F0 m 95 ls []) := by
                  intro n
                  induction n with
                  | zero =>
                    intro f11876 y11883 m11877 m11878 m11879 m11880 m11881 m11882 b11884 hm H locs ls hW hF hl
                    have hz := i32_b y11883
                    exfalso; omega
                  | succ n ih =>
                    intro f11876 y11883 m11877 m11878 m11879 m11880 m11881 m11882 b11884 hm H locs ls hW hF hl
                    have ih95 := ih
                    refine lv_iload hx hb dX11_worstOf_95 (lv_at hl 0 rfl) ?_
                    refine lv_iload_n hx hb dX11_worstOf_97 rfl (lv_at hl 5 rfl) ?_
                    have J11902 : ∀ (H : Heap) (locs : List Loc) (ls : Array Slot), WS G cI cJ cZ cD cR cT A kp L f11876 s H locs → FM kp L ms_X11_worstOf f0 f11876 → lv_has ls 7 [(6, .int y11883), (5, .int y7974), (4, .int y7976), (0, .ref h0), (1, .int u1), (2, .int u2), (3, .int u3)] → W p l e ({ frames := 7, cells := 0, slots := 0, locals := 191 }) s m ([.ref h0, .int u1, .int u2, .int u3] : List Value).toArray below meth c H locs 0 0 (MQ below (QT (po_X11_worstOf kp L f0 h0 u1 u2 u3) G cI cJ cZ cD cR cT A kp L) ([.ref h0, .int u1, .int u2, .int u3] : List Value).toArray s 0 0 A) (F0 m 125 ls []) := by
                      intro  H locs ls hW hF hl
                      refine lv_iload hx hb dX11_worstOf_125 (lv_at hl 2 rfl) ?_
                      refine lv_aload_n hx hb dX11_worstOf_127 rfl (lv_at hl 3 rfl) ?_
                      refine fg_RX11_18 E hW rh0 dX11_worstOf_128 (fun a11903 m11904 r11905 => ?_)
                      obtain rfl : a9969 = a11903 := (m11878).symm.trans m11904
                      refine fg_RX11_389 E hW r9971 dX11_worstOf_131 (fun y11906 m11907 => ?_)
                      refine t_max (own := RX11) E tw_1322 ⟨tw_714, tw_115, tw_715⟩ hl.1 ⟨Nat.le_of_ble_eq_true rfl, Nat.le_of_ble_eq_true rfl⟩ ⟨Nat.le_of_ble_eq_true rfl, Nat.le_of_ble_eq_true rfl⟩ rfl rfl dX11_worstOf_134 (fun x11909 h11910 => ?_)
                      refine lv_istore (lv' := [(4, .int x11909), (6, .int y11883), (5, .int y7974), (0, .ref h0), (1, .int u1), (2, .int u2), (3, .int u3)]) hx hb dX11_worstOf_137 hl (by decide) rfl (fun ls hl => ?_)
                      refine q_iinc hx hb dX11_worstOf_139 hl (k := 2) rfl rfl rfl (by omega) (by decide) (fun i11911 ls h11912 hl => ?_)
                      have hl : lv_has ls 7 [(5, .int i11911), (4, .int x11909), (6, .int y11883), (0, .ref h0), (1, .int u1), (2, .int u2), (3, .int u3)] := hl
                      refine lv_goto (tgt := 6) hx hb dX11_worstOf_142 (by decide) ?_
                      exact ih6 f11876 i11911 x11909 (by omega) (by omega) (by omega) _ _ _ hW hF (lv_sub hl [0, 1, 3, 4, 5, 6] rfl)
                    refine q_icmp_ge (tgt := 125) hx hb dX11_worstOf_98 (by decide) rfl rfl (fun c11913 => ?_) (fun c11913 => ?_)
                    · exact J11902   _ _ _ hW hF (lv_sub hl [0, 1, 2, 3, 4, 5, 6] rfl)
                    · have hb11914 : y11883.toInt ≤ 2147483646 := by have := i32_b u2; omega
                      refine lv_aload_n hx hb dX11_worstOf_101 rfl (lv_at hl 3 rfl) ?_
                      refine fg_RX11_18 E hW rh0 dX11_worstOf_102 (fun a11915 m11916 r11917 => ?_)
                      obtain rfl : a9969 = a11915 := (m11878).symm.trans m11916
                      refine fg_RX11_389 E hW r9971 dX11_worstOf_105 (fun y11918 m11919 => ?_)
                      refine lv_iload_n hx hb dX11_worstOf_108 rfl (lv_at hl 6 rfl) ?_
                      refine q_icmp_ge (tgt := 125) hx hb dX11_worstOf_109 (by decide) rfl rfl (fun c11921 => ?_) (fun c11921 => ?_)
                      · exact J11902   _ _ _ hW hF (lv_sub hl [0, 1, 2, 3, 4, 5, 6] rfl)
                      · refine lv_aload_n hx hb dX11_worstOf_112 rfl (lv_at hl 3 rfl) ?_
                        refine fg_RX11_18 E hW rh0 dX11_worstOf_113 (fun a11922 m11923 r11924 => ?_)
                        obtain rfl : a9969 = a11922 := (m11916).symm.trans m11923
                        refine t_callV (As := []) (rest := []) E hW (c_X0_passWeek l G cI cJ cZ cD cR cT kp L f11876 hW.2.2.2 _ a9969 r9971) r9971 (by decide) rfl wk_X0_passWeek tw_1114 rfl ⟨Nat.le_of_ble_eq_true rfl, Nat.le_of_ble_eq_true rfl⟩ ⟨rfl, rfl⟩ hl.1 rfl (Nat.le_of_ble_eq_true rfl) dX11_worstOf_116 ⟨Nat.le_of_ble_eq_true rfl, Nat.le_of_ble_eq_true rfl⟩ (fun v11925 f11926 H locs q11927 hW => ?_)
                        obtain ⟨rfl, g11928⟩ := q11927
                        have hF := FM.tr hF g11928 rfl
                        refine q_iinc hx hb dX11_worstOf_119 hl (k := 0) rfl rfl rfl (by omega) (by decide) (fun i11929 ls h11930 hl => ?_)
                        have hl : lv_has ls 7 [(6, .int i11929), (5, .int y7974), (4, .int y7976), (0, .ref h0), (1, .int u1), (2, .int u2), (3, .int u3)] := hl
                        refine lv_goto (tgt := 95) hx hb dX11_worstOf_122 (by decide) ?_
                        exact ih95 f11926 i11929 ((fm_R g11928 rh0 rfl).trans m11877) ((fm_R g11928 rh0 rfl).trans m11923) ((fm_I g11928 rh0 rfl).trans m11879) ((fm_R g11928 rh0 rfl).trans m11880) ((fm_R g11928 rh0 rfl).trans m11881) ((fm_I g11928 rh0 rfl).trans m11882) (by omega) (by omega) _ _ _ hW hF (lv_sub hl [0, 1, 2, 3, 4, 5, 6] rfl)
                have hk11931 : (0 : Int32).toInt = 0 := rfl
                exact L11885 2147483648 f10229 0 m10230 m10231 m10239 m10232 m10233 m10234 (by decide) (by omega) _ _ _ hW hF (lv_sub hl [0, 1, 2, 3, 4, 5, 6] rfl)
              · refine lv_aload_n hx hb dX11_worstOf_65 rfl (lv_at hl 3 rfl) ?_
                refine fg_RX11_18 E hW rh0 dX11_worstOf_66 (fun a11932 m11933 r11934 => ?_)
                obtain rfl : a9969 = a11932 := (m10231).symm.trans m11933
                refine fg_RX11_386 E hW r9971 dX11_worstOf_69 (fun a11935 m11936 r11937 => ?_)
                refine lv_aload_n hx hb dX11_worstOf_72 rfl (lv_at hl 3 rfl) ?_
                refine fg_RX11_41 E hW rh0 dX11_worstOf_73 (fun a11938 m11939 r11940 => ?_)
                refine lv_iload hx hb dX11_worstOf_76 (lv_at hl 0 rfl) ?_
                refine gl_768 E hW r11940 ⟨by omega, by omega⟩ dX11_worstOf_78 (fun y11941 m11942 b11943 => ?_)
                refine lv_iload_n hx hb dX11_worstOf_79 rfl (lv_at hl 4 rfl) ?_
                refine lv_iload hx hb dX11_worstOf_80 (lv_at hl 0 rfl) ?_
                refine u_ishr hx hb dX11_worstOf_82 (fun x11944 => ?_)
                refine lv_iconst (v := 1) hx hb dX11_worstOf_83 (by decide) ?_
                refine q_iand (M := 1) (k := 1) hx hb dX11_worstOf_84 (by decide) (by decide) (by decide) (fun x11945 h11946 => ?_)
                refine gs_108 E hW r11937 ⟨by omega, by omega⟩ dX11_worstOf_85 (fun f11947 H locs e11948 n11949 g11950 hW => ?_)
                have hF := FM.tr hF g11950 rfl
                refine q_iinc hx hb dX11_worstOf_86 hl (k := 0) rfl rfl rfl (by omega) (by decide) (fun i11951 ls h11952 hl => ?_)
                have hl : lv_has ls 7 [(6, .int i11951), (5, .int y7974), (4, .int y7976), (0, .ref h0), (1, .int u1), (2, .int u2), (3, .int u3)] := hl
                refine lv_goto (tgt := 56) hx hb dX11_worstOf_89 (by decide) ?_
                exact ih56 f11947 i11951 ((fm_R g11950 rh0 rfl).trans m10230) ((fm_R g11950 rh0 rfl).trans m11933) ((fm_R g11950 rh0 rfl).trans m10232) ((fm_R g11950 rh0 rfl).trans m10233) ((fm_I g11950 rh0 rfl).trans m10234) (by omega) (by omega) _ _ _ hW hF (lv_sub hl [0, 1, 2, 3, 4, 5, 6] rfl)
          have hk11953 : (0 : Int32).toInt = 0 := rfl
          exact L10237 7 f9995 0 ((fm_R g9997 rh0 rfl).trans ((fm_R g9978 rh0 rfl).trans m9973)) ((fm_R g9997 rh0 rfl).trans m9980) ((fm_R g9997 rh0 rfl).trans m9983) ((fm_R g9997 rh0 rfl).trans m9989) ((fm_I g9997 rh0 rfl).trans ((fm_I g9978 rh0 rfl).trans m7980)) (by decide) (by omega) _ _ _ hW hF (lv_sub hl [0, 1, 2, 3, 4, 5, 6] rfl)
  have hk11954 : (0 : Int32).toInt = 0 := rfl
  have hk11955 : (0 : Int32).toInt = 0 := rfl
  exact L7978 4 f0 0 0 (by decide) (by decide) (by omega) _ _ _ hW hF (lv_sub hl [0, 1, 2, 3, 4, 5] rfl)
def ms_X11_choose : List (Nat × Nat) := [(0, 6), (0, 9), (0, 10), (0, 11), (0, 12), (0, 13), (0, 14), (1, 0), (1, 8), (1, 12), (1, 13), (1, 14), (2, 0), (3, 0), (3, 1), (3, 2), (3, 3), (4, 0), (10, 0), (10, 7), (11, 14), (108, 0), (115, 0), (161, 0), (162, 0), (163, 0), (164, 0), (165, 0), (166, 0), (167, 0), (169, 0), (170, 0), (171, 0), (221, 0), (222, 0), (223, 0), (284, 0), (285, 0), (341, 0), (342, 0), (343, 0), (344, 0), (345, 0), (346, 0), (347, 0), (348, 0), (349, 0), (520, 0), (521, 0), (701, 0), (702, 0), (703, 0), (704, 0), (705, 0), (706, 0), (708, 0), (709, 0), (710, 0), (773, 0)]
def po_X11_choose (kp : Nat → Nat) (L : List Nat) (f0 : Nat → va_E) (h0 : Nat) (u1 : Int32) : Option Value → (Nat → va_E) → Prop := fun v f => (∃ r : Int32, v = some (.int r) ∧ ((-1 : Int) ≤ r.toInt ∧ r.toInt ≤ 41)) ∧ FM kp L ms_X11_choose f0 f
set_option maxHeartbeats 4000000 in
set_option maxRecDepth 100000 in
theorem c_X11_choose (l : Launch) (G : va_G) (cI cJ cZ cD cR cT : ClassId) (kp : Nat → Nat) (L : List Nat) (f0 : Nat → va_E) (hTH : TH cI cJ cZ cD cR cT kp L f0) (sz : Nat) (h0 : Nat) (u1 : Int32) (rh0 : RK kp L h0 11) : Met l yX11_choose (Cond.code yX11_choose cX11_choose 8 (some .int) :: wTab) ({ frames := 8, cells := 0, slots := 0, locals := 217 }) (va_Pc [.ref h0, .int u1] (PreW G (tys6 cI cJ cZ cD cR cT) (va_pl L f0) sz)) (QT (po_X11_choose kp L f0 h0 u1) G cI cJ cZ cD cR cT (va_A (va_pl L f0) sz) kp L) 0 0 (va_A (va_pl L f0) sz) := by
  refine metT (by decide) (Nat.le_of_ble_eq_true rfl) hTH ?_
  intro p e s m below meth c A ls E hW hl
  obtain ⟨hx, hb, -, hml, hown, hts, -, -, -⟩ := id E
  have hF : FM kp L ms_X11_choose f0 f0 := FM.rf
  have hl : lv_has ls 8 [(0, .ref h0), (1, .int u1)] := hl
  refine lv_aload_n hx hb dX11_choose_0 rfl (lv_at hl 0 rfl) ?_
  refine lv_iload_n hx hb dX11_choose_1 rfl (lv_at hl 1 rfl) ?_
  refine t_callV (As := [.int u1]) (rest := []) E hW (c_X11_canChoose l G cI cJ cZ cD cR cT kp L f0 hW.2.2.2 _ h0 u1 rh0) rh0 (by decide) rfl wk_X11_canChoose tw_1272 rfl ⟨Nat.le_of_ble_eq_true rfl, Nat.le_of_ble_eq_true rfl⟩ ⟨rfl, rfl⟩ hl.1 rfl (Nat.le_of_ble_eq_true rfl) dX11_choose_2 ⟨Nat.le_of_ble_eq_true rfl, Nat.le_of_ble_eq_true rfl⟩ (fun v1 f2 H locs q3 hW => ?_)
  obtain ⟨⟨x5, rfl, p6⟩, g4⟩ := q3
  have hF := FM.tr hF g4 rfl
  refine q_if_ne (tgt := 10) hx hb dX11_choose_5 (by decide) rfl (fun c7 => ?_) (fun c7 => ?_)
  · refine lv_bipush (v := 41) hx hb dX11_choose_10 (by decide) ?_
    refine lv_istore_n (lv' := [(2, .int 41), (0, .ref h0), (1, .int u1)]) hx hb dX11_choose_12 rfl hl (by decide) rfl (fun ls hl => ?_)
    refine lv_iconst (v := 0) hx hb dX11_choose_13 (by decide) ?_
    refine lv_istore_n (lv' := [(3, .int 0), (2, .int 41), (0, .ref h0), (1, .int u1)]) hx hb dX11_choose_14 rfl hl (by decide) rfl (fun ls hl => ?_)
    refine lv_iconst (v := 0) hx hb dX11_choose_15 (by decide) ?_
    refine lv_istore (lv' := [(4, .int 0), (3, .int 0), (2, .int 41), (0, .ref h0), (1, .int u1)]) hx hb dX11_choose_16 hl (by decide) rfl (fun ls hl => ?_)
    have L27704 : ∀ (n : Nat), ∀ (f27698 : Nat → va_E) (y27699 : Int32) (y27701 : Int32) (y27702 : Int32) (b27700 : (0 : Int) ≤ y27699.toInt ∧ y27699.toInt ≤ 7) (b27703 : (0 : Int) ≤ y27702.toInt ∧ y27702.toInt ≤ 41) (hm : (8 : Int) - y27699.toInt ≤ n) (H : Heap) (locs : List Loc) (ls : Array Slot), WS G cI cJ cZ cD cR cT A kp L f27698 s H locs → FM kp L ms_X11_choose f0 f27698 → lv_has ls 8 [(4, .int y27699), (3, .int y27701), (2, .int y27702), (0, .ref h0), (1, .int u1)] → W p l e ({ frames := 8, cells := 0, slots := 0, locals := 217 }) s m ([.ref h0, .int u1] : List Value).toArray below meth c H locs 0 0 (MQ below (QT (po_X11_choose kp L f0 h0 u1) G cI cJ cZ cD cR cT A kp L) ([.ref h0, .int u1] : List Value).toArray s 0 0 A) (F0 m 18 ls []) := by
      intro n
      induction n with
      | zero =>
        intro f27698 y27699 y27701 y27702 b27700 b27703 hm H locs ls hW hF hl
        have hz := i32_b y27699
        exfalso; omega
      | succ n ih =>
        intro f27698 y27699 y27701 y27702 b27700 b27703 hm H locs ls hW hF hl
        clear p6 c7
        have ih18 := ih
        refine lv_iload hx hb dX11_choose_18 (lv_at hl 0 rfl) ?_
        refine lv_aload_n hx hb dX11_choose_20 rfl (lv_at hl 3 rfl) ?_
        refine fg_RX11_309 E hW rh0 dX11_choose_21 (fun y27705 m27706 b27707 => ?_)
        have J31159 : ∀ (H : Heap) (locs : List Loc) (ls : Array Slot), WS G cI cJ cZ cD cR cT A kp L f27698 s H locs → FM kp L ms_X11_choose f0 f27698 → lv_has ls 8 [(4, .int y27699), (3, .int y27701), (2, .int y27702), (0, .ref h0), (1, .int u1)] → W p l e ({ frames := 8, cells := 0, slots := 0, locals := 217 }) s m ([.ref h0, .int u1] : List Value).toArray below meth c H locs 0 0 (MQ below (QT (po_X11_choose kp L f0 h0 u1) G cI cJ cZ cD cR cT A kp L) ([.ref h0, .int u1] : List Value).toArray s 0 0 A) (F0 m 104 ls []) := by
          intro  H locs ls hW hF hl
          refine lv_iconst (v := 0) hx hb dX11_choose_104 (by decide) ?_
          refine lv_istore (lv' := [(4, .int 0), (3, .int y27701), (2, .int y27702), (0, .ref h0), (1, .int u1)]) hx hb dX11_choose_105 hl (by decide) rfl (fun ls hl => ?_)
          have L31304 : ∀ (n : Nat), ∀ (f31300 : Nat → va_E) (y31302 : Int32) (m31301 : oI (f31300 h0) 9 = y27705) (b31303 : (0 : Int) ≤ y31302.toInt ∧ y31302.toInt ≤ 6) (hm : (7 : Int) - y31302.toInt ≤ n) (H : Heap) (locs : List Loc) (ls : Array Slot), WS G cI cJ cZ cD cR cT A kp L f31300 s H locs → FM kp L ms_X11_choose f0 f31300 → lv_has ls 8 [(4, .int y31302), (3, .int y27701), (2, .int y27702), (0, .ref h0), (1, .int u1)] → W p l e ({ frames := 8, cells := 0, slots := 0, locals := 217 }) s m ([.ref h0, .int u1] : List Value).toArray below meth c H locs 0 0 (MQ below (QT (po_X11_choose kp L f0 h0 u1) G cI cJ cZ cD cR cT A kp L) ([.ref h0, .int u1] : List Value).toArray s 0 0 A) (F0 m 107 ls []) := by
            intro n
            induction n with
            | zero =>
              intro f31300 y31302 m31301 b31303 hm H locs ls hW hF hl
              have hz := i32_b y31302
              exfalso; omega
            | succ n ih =>
              intro f31300 y31302 m31301 b31303 hm H locs ls hW hF hl
              have ih107 := ih
              refine lv_iload hx hb dX11_choose_107 (lv_at hl 0 rfl) ?_
              refine lv_aload_n hx hb dX11_choose_109 rfl (lv_at hl 3 rfl) ?_
              refine fg_RX11_309 E hW rh0 dX11_choose_110 (fun y31305 m31306 b31307 => ?_)
              obtain rfl : y27705 = y31305 := (m31301).symm.trans m31306
              refine q_icmp_ge (tgt := 135) hx hb dX11_choose_113 (by decide) rfl rfl (fun c31320 => ?_) (fun c31320 => ?_)
              · refine lv_aload_n hx hb dX11_choose_135 rfl (lv_at hl 3 rfl) ?_
                refine lv_aload_n hx hb dX11_choose_136 rfl (lv_at hl 3 rfl) ?_
                refine fg_RX11_309 E hW rh0 dX11_choose_137 (fun y31321 m31322 b31323 => ?_)
                obtain rfl : y27705 = y31321 := (m31306).symm.trans m31322
                refine fp_RX11_329 E hW rh0 (by omega) dX11_choose_140 (fun f31324 H locs e31325 n31326 g31327 hW => ?_)
                have hF := FM.tr hF g31327 rfl
                refine lv_iload_n hx hb dX11_choose_143 rfl (lv_at hl 2 rfl) ?_
                exact e_I E hW rfl ⟨⟨_, rfl, (by first | omega | trivial)⟩, hF⟩ dX11_choose_144
              · refine lv_aload_n hx hb dX11_choose_116 rfl (lv_at hl 3 rfl) ?_
                refine fg_RX11_51 E hW rh0 dX11_choose_117 (fun a31328 m31329 r31330 => ?_)
                refine lv_iload hx hb dX11_choose_120 (lv_at hl 0 rfl) ?_
                refine lv_iload_n hx hb dX11_choose_122 rfl (lv_at hl 1 rfl) ?_
                refine lv_iload hx hb dX11_choose_123 (lv_at hl 0 rfl) ?_
                refine u_ishr hx hb dX11_choose_125 (fun x31331 => ?_)
                refine lv_iconst (v := 1) hx hb dX11_choose_126 (by decide) ?_
                refine q_iand (M := 1) (k := 1) hx hb dX11_choose_127 (by decide) (by decide) (by decide) (fun x31332 h31333 => ?_)
                refine gs_773 E hW r31330 ⟨by omega, by omega⟩ dX11_choose_128 (fun f31334 H locs e31335 n31336 g31337 hW => ?_)
                have hF := FM.tr hF g31337 rfl
                refine q_iinc hx hb dX11_choose_129 hl (k := 0) rfl rfl rfl (by omega) (by decide) (fun i31338 ls h31339 hl => ?_)
                have hl : lv_has ls 8 [(4, .int i31338), (3, .int y27701), (2, .int y27702), (0, .ref h0), (1, .int u1)] := hl
                refine lv_goto (tgt := 107) hx hb dX11_choose_132 (by decide) ?_
                exact ih107 f31334 i31338 ((fm_I g31337 rh0 rfl).trans m31306) (by omega) (by omega) _ _ _ hW hF (lv_sub hl [0, 1, 2, 3, 4] rfl)
          have hk31340 : (0 : Int32).toInt = 0 := rfl
          exact L31304 7 f27698 0 m27706 (by decide) (by omega) _ _ _ hW hF (lv_sub hl [0, 1, 2, 3, 4] rfl)
        refine q_icmp_gt (tgt := 104) hx hb dX11_choose_24 (by decide) rfl rfl (fun c31341 => ?_) (fun c31341 => ?_)
        · exact J31159   _ _ _ hW hF (lv_sub hl [0, 1, 2, 3, 4] rfl)
        · refine lv_iload_n hx hb dX11_choose_27 rfl (lv_at hl 2 rfl) ?_
          refine q_if_le (tgt := 104) hx hb dX11_choose_28 (by decide) rfl (fun c31342 => ?_) (fun c31342 => ?_)
          · exact J31159   _ _ _ hW hF (lv_sub hl [0, 1, 2, 3, 4] rfl)
          · refine lv_iconst (v := 0) hx hb dX11_choose_31 (by decide) ?_
            refine lv_istore (lv' := [(5, .int 0), (4, .int y27699), (3, .int y27701), (2, .int y27702), (0, .ref h0), (1, .int u1)]) hx hb dX11_choose_32 hl (by decide) rfl (fun ls hl => ?_)
            have L34699 : ∀ (n : Nat), ∀ (f34692 : Nat → va_E) (y34694 : Int32) (y34696 : Int32) (y34697 : Int32) (m34693 : oI (f34692 h0) 9 = y27705) (b34695 : (0 : Int) ≤ y34694.toInt) (b34698 : (0 : Int) ≤ y34697.toInt ∧ y34697.toInt ≤ 41) (hm : (2147483648 : Int) - y34694.toInt ≤ n) (H : Heap) (locs : List Loc) (ls : Array Slot), WS G cI cJ cZ cD cR cT A kp L f34692 s H locs → FM kp L ms_X11_choose f0 f34692 → lv_has ls 8 [(5, .int y34694), (4, .int y27699), (3, .int y34696), (2, .int y34697), (0, .ref h0), (1, .int u1)] → W p l e ({ frames := 8, cells := 0, slots := 0, locals := 217 }) s m ([.ref h0, .int u1] : List Value).toArray below meth c H locs 0 0 (MQ below (QT (po_X11_choose kp L f0 h0 u1) G cI cJ cZ cD cR cT A kp L) ([.ref h0, .int u1] : List Value).toArray s 0 0 A) (F0 m 34 ls []) := by
              intro n
              induction n with
              | zero =>
                intro f34692 y34694 y34696 y34697 m34693 b34695 b34698 hm H locs ls hW hF hl
                have hz := i32_b y34694
                exfalso; omega
              | succ n ih =>
                intro f34692 y34694 y34696 y34697 m34693 b34695 b34698 hm H locs ls hW hF hl
                clear b27703 c31342
                have ih34 := ih
                refine lv_iload hx hb dX11_choose_34 (lv_at hl 0 rfl) ?_
                refine lv_iconst (v := 1) hx hb dX11_choose_36 (by decide) ?_
                refine lv_aload_n hx hb dX11_choose_37 rfl (lv_at hl 4 rfl) ?_
                refine fg_RX11_309 E hW rh0 dX11_choose_38 (fun y34700 m34701 b34702 => ?_)
                obtain rfl : y27705 = y34700 := (m34693).symm.trans m34701
                refine u_ishl hx hb dX11_choose_41 (fun x34703 => ?_)
                have J34746 : ∀ (H : Heap) (locs : List Loc) (ls : Array Slot), WS G cI cJ cZ cD cR cT A kp L f34692 s H locs → FM kp L ms_X11_choose f0 f34692 → lv_has ls 8 [(5, .int y34694), (4, .int y27699), (3, .int y34696), (2, .int y34697), (0, .ref h0), (1, .int u1)] → W p l e ({ frames := 8, cells := 0, slots := 0, locals := 217 }) s m ([.ref h0, .int u1] : List Value).toArray below meth c H locs 0 0 (MQ below (QT (po_X11_choose kp L f0 h0 u1) G cI cJ cZ cD cR cT A kp L) ([.ref h0, .int u1] : List Value).toArray s 0 0 A) (F0 m 98 ls []) := by
                  intro  H locs ls hW hF hl
                  refine q_iinc hx hb dX11_choose_98 hl (k := 1) rfl rfl rfl (by omega) (by decide) (fun i34747 ls h34748 hl => ?_)
                  have hl : lv_has ls 8 [(4, .int i34747), (5, .int y34694), (3, .int y34696), (2, .int y34697), (0, .ref h0), (1, .int u1)] := hl
                  refine lv_goto (tgt := 18) hx hb dX11_choose_101 (by decide) ?_
                  exact ih18 f34692 i34747 y34696 y34697 (by omega) (by omega) (by omega) _ _ _ hW hF (lv_sub hl [0, 2, 3, 4, 5] rfl)
                refine q_icmp_ge (tgt := 98) hx hb dX11_choose_42 (by decide) rfl rfl (fun c34749 => ?_) (fun c34749 => ?_)
                · exact J34746   _ _ _ hW hF (lv_sub hl [0, 1, 2, 3, 4, 5] rfl)
                · have hb34750 : y34694.toInt ≤ 2147483646 := by have := i32_b x34703; omega
                  refine lv_iload_n hx hb dX11_choose_45 rfl (lv_at hl 3 rfl) ?_
                  refine q_if_le (tgt := 98) hx hb dX11_choose_46 (by decide) rfl (fun c34751 => ?_) (fun c34751 => ?_)
                  · exact J34746   _ _ _ hW hF (lv_sub hl [0, 1, 2, 3, 4, 5] rfl)
                  · refine lv_iload hx hb dX11_choose_49 (lv_at hl 0 rfl) ?_
                    refine t_callS (As := [.int y34694]) (rest := []) E hW (c_J6_bitCount_0f7a4 l G cI cJ cZ cD cR cT kp L f34692 hW.2.2.2 _ y34694 (by omega)) wk_J6_bitCount_0f7a4 tw_1276 rfl ⟨Nat.le_of_ble_eq_true rfl, Nat.le_of_ble_eq_true rfl⟩ ⟨rfl, rfl⟩ hl.1 rfl (Nat.le_of_ble_eq_true rfl) dX11_choose_51 ⟨Nat.le_of_ble_eq_true rfl, Nat.le_of_ble_eq_true rfl⟩ (fun v34752 f34753 H locs q34754 hW => ?_)
                    obtain ⟨⟨x34756, rfl, p34757⟩, g34755⟩ := q34754
                    have hF := FM.tr hF g34755 rfl
                    refine lv_iload hx hb dX11_choose_54 (lv_at hl 1 rfl) ?_
                    have J34776 : ∀ (f34771 : Nat → va_E) (y34773 : Int32) (y34774 : Int32) (m34772 : oI (f34771 h0) 9 = y27705) (b34775 : (0 : Int) ≤ y34774.toInt ∧ y34774.toInt ≤ 41) (H : Heap) (locs : List Loc) (ls : Array Slot), WS G cI cJ cZ cD cR cT A kp L f34771 s H locs → FM kp L ms_X11_choose f0 f34771 → lv_has ls 8 [(5, .int y34694), (4, .int y27699), (3, .int y34773), (2, .int y34774), (0, .ref h0), (1, .int u1)] → W p l e ({ frames := 8, cells := 0, slots := 0, locals := 217 }) s m ([.ref h0, .int u1] : List Value).toArray below meth c H locs 0 0 (MQ below (QT (po_X11_choose kp L f0 h0 u1) G cI cJ cZ cD cR cT A kp L) ([.ref h0, .int u1] : List Value).toArray s 0 0 A) (F0 m 92 ls []) := by
                      intro f34771 y34773 y34774 m34772 b34775 H locs ls hW hF hl
                      clear b34698 c34751 p34757
                      refine q_iinc hx hb dX11_choose_92 hl (k := 0) rfl rfl rfl (by omega) (by decide) (fun i34777 ls h34778 hl => ?_)
                      have hl : lv_has ls 8 [(5, .int i34777), (4, .int y27699), (3, .int y34773), (2, .int y34774), (0, .ref h0), (1, .int u1)] := hl
                      refine lv_goto (tgt := 34) hx hb dX11_choose_95 (by decide) ?_
                      exact ih34 f34771 i34777 y34773 y34774 m34772 (by omega) (by omega) (by omega) _ _ _ hW hF (lv_sub hl [0, 1, 2, 3, 4, 5] rfl)
                    refine q_icmp_eq (tgt := 62) hx hb dX11_choose_56 (by decide) rfl rfl (fun c34779 => ?_) (fun c34779 => ?_)
                    · refine lv_aload_n hx hb dX11_choose_62 rfl (lv_at hl 4 rfl) ?_
                      refine lv_iload hx hb dX11_choose_63 (lv_at hl 0 rfl) ?_
                      refine t_callV (As := [.int y34694]) (rest := []) E hW (c_X11_bitsOfRow l G cI cJ cZ cD cR cT kp L f34753 hW.2.2.2 _ h0 y34694 rh0 (by omega)) rh0 (by decide) rfl wk_X11_bitsOfRow tw_1277 rfl ⟨Nat.le_of_ble_eq_true rfl, Nat.le_of_ble_eq_true rfl⟩ ⟨rfl, rfl⟩ hl.1 rfl (Nat.le_of_ble_eq_true rfl) dX11_choose_65 ⟨Nat.le_of_ble_eq_true rfl, Nat.le_of_ble_eq_true rfl⟩ (fun v34780 f34781 H locs q34782 hW => ?_)
                      obtain ⟨⟨x34784, rfl, p34785⟩, g34783⟩ := q34782
                      clear p34785
                      have hF := FM.tr hF g34783 rfl
                      refine lv_istore (lv' := [(6, .int x34784), (5, .int y34694), (4, .int y27699), (3, .int y34696), (2, .int y34697), (0, .ref h0), (1, .int u1)]) hx hb dX11_choose_68 hl (by decide) rfl (fun ls hl => ?_)
                      refine lv_aload_n hx hb dX11_choose_70 rfl (lv_at hl 5 rfl) ?_
                      refine lv_iload hx hb dX11_choose_71 (lv_at hl 0 rfl) ?_
                      refine lv_iload_n hx hb dX11_choose_73 rfl (lv_at hl 6 rfl) ?_
                      refine lv_iload_n hx hb dX11_choose_74 rfl (lv_at hl 4 rfl) ?_
                      refine t_callV (As := [.int x34784, .int u1, .int y34697]) (rest := []) E hW (c_X11_worstOf l G cI cJ cZ cD cR cT kp L f34781 hW.2.2.2 _ h0 x34784 u1 y34697 rh0 (by omega)) rh0 (by decide) rfl wk_X11_worstOf tw_1281 rfl ⟨Nat.le_of_ble_eq_true rfl, Nat.le_of_ble_eq_true rfl⟩ ⟨rfl, rfl⟩ hl.1 rfl (Nat.le_of_ble_eq_true rfl) dX11_choose_75 ⟨Nat.le_of_ble_eq_true rfl, Nat.le_of_ble_eq_true rfl⟩ (fun v34786 f34787 H locs q34788 hW => ?_)
                      obtain ⟨⟨x34790, rfl, p34791⟩, g34789⟩ := q34788
                      have hF := FM.tr hF g34789 rfl
                      refine lv_istore (lv' := [(7, .int x34790), (6, .int x34784), (5, .int y34694), (4, .int y27699), (3, .int y34696), (2, .int y34697), (0, .ref h0), (1, .int u1)]) hx hb dX11_choose_78 hl (by decide) rfl (fun ls hl => ?_)
                      refine lv_iload hx hb dX11_choose_80 (lv_at hl 0 rfl) ?_
                      refine lv_iload_n hx hb dX11_choose_82 rfl (lv_at hl 5 rfl) ?_
                      refine q_icmp_ge (tgt := 92) hx hb dX11_choose_83 (by decide) rfl rfl (fun c34792 => ?_) (fun c34792 => ?_)
                      · exact J34776 f34787 y34696 y34697 ((fm_I g34789 rh0 rfl).trans ((fm_I g34783 rh0 rfl).trans ((fm_I g34755 rh0 rfl).trans m34701))) (by omega) _ _ _ hW hF (lv_sub hl [2, 3, 4, 5, 6, 7] rfl)
                      · refine lv_iload hx hb dX11_choose_86 (lv_at hl 0 rfl) ?_
                        refine lv_istore_n (lv' := [(2, .int x34790), (7, .int x34790), (6, .int x34784), (5, .int y34694), (4, .int y27699), (3, .int y34696), (0, .ref h0), (1, .int u1)]) hx hb dX11_choose_88 rfl hl (by decide) rfl (fun ls hl => ?_)
                        refine lv_iload hx hb dX11_choose_89 (lv_at hl 2 rfl) ?_
                        refine lv_istore_n (lv' := [(3, .int x34784), (2, .int x34790), (7, .int x34790), (6, .int x34784), (5, .int y34694), (4, .int y27699), (0, .ref h0), (1, .int u1)]) hx hb dX11_choose_91 rfl hl (by decide) rfl (fun ls hl => ?_)
                        exact J34776 f34787 x34784 x34790 ((fm_I g34789 rh0 rfl).trans ((fm_I g34783 rh0 rfl).trans ((fm_I g34755 rh0 rfl).trans m34701))) (by omega) _ _ _ hW hF (lv_sub hl [4, 5, 0, 1, 6, 7] rfl)
                    · refine lv_goto (tgt := 92) hx hb dX11_choose_59 (by decide) ?_
                      exact J34776 f34753 y34696 y34697 ((fm_I g34755 rh0 rfl).trans m34701) (by omega) _ _ _ hW hF (lv_sub hl [0, 1, 2, 3, 4, 5] rfl)
            have hk34793 : (0 : Int32).toInt = 0 := rfl
            exact L34699 2147483648 f27698 0 y27701 y27702 m27706 (by decide) (by omega) (by omega) _ _ _ hW hF (lv_sub hl [0, 1, 2, 3, 4, 5] rfl)
    have hk34794 : (0 : Int32).toInt = 0 := rfl
    have hk34795 : (0 : Int32).toInt = 0 := rfl
    have hk34796 : (41 : Int32).toInt = 41 := rfl
    exact L27704 8 f2 0 0 41 (by decide) (by decide) (by omega) _ _ _ hW hF (lv_sub hl [0, 1, 2, 3, 4] rfl)
  · refine lv_iconst (v := (-1)) hx hb dX11_choose_8 (by decide) ?_
    exact e_I E hW rfl ⟨⟨_, rfl, (by have hk : ((-1) : Int32).toInt = -1 := rfl; first | decide | omega)⟩, hF⟩ dX11_choose_9
def ms_X11_chosen : List (Nat × Nat) := []
def po_X11_chosen (kp : Nat → Nat) (L : List Nat) (f0 : Nat → va_E) (h0 : Nat) (u1 : Int32) : Option Value → (Nat → va_E) → Prop := fun v f => (∃ r : Int32, v = some (.int r) ∧ (True)) ∧ FM kp L ms_X11_chosen f0 f
set_option maxHeartbeats 4000000 in
set_option maxRecDepth 100000 in
theorem c_X11_chosen (l : Launch) (G : va_G) (cI cJ cZ cD cR cT : ClassId) (kp : Nat → Nat) (L : List Nat) (f0 : Nat → va_E) (hTH : TH cI cJ cZ cD cR cT kp L f0) (sz : Nat) (h0 : Nat) (u1 : Int32) (rh0 : RK kp L h0 11) : Met l yX11_chosen (Cond.code yX11_chosen cX11_chosen 2 (some .int) :: wTab) ({ frames := 2, cells := 0, slots := 0, locals := 62 }) (va_Pc [.ref h0, .int u1] (PreW G (tys6 cI cJ cZ cD cR cT) (va_pl L f0) sz)) (QT (po_X11_chosen kp L f0 h0 u1) G cI cJ cZ cD cR cT (va_A (va_pl L f0) sz) kp L) 0 0 (va_A (va_pl L f0) sz) := by
  refine metT (by decide) (Nat.le_of_ble_eq_true rfl) hTH ?_
  intro p e s m below meth c A ls E hW hl
  obtain ⟨hx, hb, -, hml, hown, hts, -, -, -⟩ := id E
  have hF : FM kp L ms_X11_chosen f0 f0 := FM.rf
  have hl : lv_has ls 2 [(0, .ref h0), (1, .int u1)] := hl
  refine lv_iload_n hx hb dX11_chosen_0 rfl (lv_at hl 1 rfl) ?_
  refine lv_iconst (v := 0) hx hb dX11_chosen_1 (by decide) ?_
  refine lv_aload_n hx hb dX11_chosen_2 rfl (lv_at hl 0 rfl) ?_
  refine fg_RX11_329 E hW rh0 dX11_chosen_3 (fun y1 m2 b3 => ?_)
  refine lv_iconst (v := 1) hx hb dX11_chosen_6 (by decide) ?_
  refine q_isub (Y := 1) hx hb dX11_chosen_7 rfl rfl (by omega) (fun x4 h5 => ?_)
  refine t_callS (As := [.int u1, .int 0, .int x4]) (rest := []) E hW (c_X11_within l G cI cJ cZ cD cR cT kp L f0 hW.2.2.2 _ u1 0 x4 (by decide)) wk_X11_within tw_599 rfl ⟨Nat.le_of_ble_eq_true rfl, Nat.le_of_ble_eq_true rfl⟩ ⟨rfl, rfl⟩ hl.1 rfl (Nat.le_of_ble_eq_true rfl) dX11_chosen_8 ⟨Nat.le_of_ble_eq_true rfl, Nat.le_of_ble_eq_true rfl⟩ (fun v6 f7 H locs q8 hW => ?_)
  obtain ⟨⟨x10, rfl, p11⟩, g9⟩ := q8
  have p11 : (x10.toInt = 1 ∧ 0 ≤ u1.toInt ∧ u1.toInt ≤ x4.toInt) ∨ (x10.toInt = 0 ∧ (u1.toInt < 0 ∨ x4.toInt < u1.toInt)) := p11
  have hF := FM.tr hF g9 rfl
  have J19 : ∀ (y18 : Int32) (H : Heap) (locs : List Loc) (ls : Array Slot), WS G cI cJ cZ cD cR cT A kp L f7 s H locs → FM kp L ms_X11_chosen f0 f7 → lv_has ls 2 [(0, .ref h0), (1, .int u1)] → W p l e ({ frames := 2, cells := 0, slots := 0, locals := 62 }) s m ([.ref h0, .int u1] : List Value).toArray below meth c H locs 0 0 (MQ below (QT (po_X11_chosen kp L f0 h0 u1) G cI cJ cZ cD cR cT A kp L) ([.ref h0, .int u1] : List Value).toArray s 0 0 A) (F0 m 24 ls [.int y18]) := by
    intro y18 H locs ls hW hF hl
    exact e_I E hW rfl ⟨⟨_, rfl, trivial⟩, hF⟩ dX11_chosen_24
  refine q_if_eq (tgt := 23) hx hb dX11_chosen_11 (by decide) rfl (fun c20 => ?_) (fun c20 => ?_)
  · have q21 : (u1.toInt < 0 ∨ x4.toInt < u1.toInt) := by omega
    clear p11
    refine lv_iconst (v := (-1)) hx hb dX11_chosen_23 (by decide) ?_
    exact J19 (-1)  _ _ _ hW hF (lv_sub hl [0, 1] rfl)
  · have q22 : 0 ≤ u1.toInt ∧ u1.toInt ≤ x4.toInt := by omega
    clear p11
    refine lv_aload_n hx hb dX11_chosen_14 rfl (lv_at hl 0 rfl) ?_
    refine fg_RX11_51 E hW rh0 dX11_chosen_15 (fun a23 m24 r25 => ?_)
    refine lv_iload_n hx hb dX11_chosen_18 rfl (lv_at hl 1 rfl) ?_
    refine gl_773 E hW r25 ⟨by omega, by omega⟩ dX11_chosen_19 (fun y26 m27 => ?_)
    refine lv_goto (tgt := 24) hx hb dX11_chosen_20 (by decide) ?_
    exact J19 y26  _ _ _ hW hF (lv_sub hl [0, 1] rfl)
def ms_X11_clear : List (Nat × Nat) := [(11, 9), (11, 12)]
def po_X11_clear (kp : Nat → Nat) (L : List Nat) (f0 : Nat → va_E) (h0 : Nat) : Option Value → (Nat → va_E) → Prop := fun v f => (∃ r : Int32, v = some (.int r) ∧ ((0 : Int) ≤ r.toInt ∧ r.toInt ≤ 6)) ∧ FM kp L ms_X11_clear f0 f
set_option maxHeartbeats 4000000 in
set_option maxRecDepth 100000 in
theorem c_X11_clear (l : Launch) (G : va_G) (cI cJ cZ cD cR cT : ClassId) (kp : Nat → Nat) (L : List Nat) (f0 : Nat → va_E) (hTH : TH cI cJ cZ cD cR cT kp L f0) (sz : Nat) (h0 : Nat) (rh0 : RK kp L h0 11) : Met l yX11_clear (Cond.code yX11_clear cX11_clear 2 (some .int) :: wTab) ({ frames := 1, cells := 0, slots := 0, locals := 40 }) (va_Pc [.ref h0] (PreW G (tys6 cI cJ cZ cD cR cT) (va_pl L f0) sz)) (QT (po_X11_clear kp L f0 h0) G cI cJ cZ cD cR cT (va_A (va_pl L f0) sz) kp L) 0 0 (va_A (va_pl L f0) sz) := by
  refine metT (by decide) (Nat.le_of_ble_eq_true rfl) hTH ?_
  intro p e s m below meth c A ls E hW hl
  obtain ⟨hx, hb, -, hml, hown, hts, -, -, -⟩ := id E
  have hF : FM kp L ms_X11_clear f0 f0 := FM.rf
  have hl : lv_has ls 2 [(0, .ref h0)] := hl
  refine lv_aload_n hx hb dX11_clear_0 rfl (lv_at hl 0 rfl) ?_
  refine fg_RX11_309 E hW rh0 dX11_clear_1 (fun y1 m2 b3 => ?_)
  refine lv_istore_n (lv' := [(1, .int y1), (0, .ref h0)]) hx hb dX11_clear_4 rfl hl (by decide) rfl (fun ls hl => ?_)
  refine lv_aload_n hx hb dX11_clear_5 rfl (lv_at hl 1 rfl) ?_
  refine lv_iconst (v := 0) hx hb dX11_clear_6 (by decide) ?_
  refine fp_RX11_309 E hW rh0 (by decide) dX11_clear_7 (fun f4 H locs e5 n6 g7 hW => ?_)
  have hF := FM.tr hF g7 rfl
  refine lv_aload_n hx hb dX11_clear_10 rfl (lv_at hl 1 rfl) ?_
  refine lv_iconst (v := 0) hx hb dX11_clear_11 (by decide) ?_
  refine fp_RX11_312 E hW rh0 (by decide) dX11_clear_12 (fun f8 H locs e9 n10 g11 hW => ?_)
  have hF := FM.tr hF g11 rfl
  refine lv_iload_n hx hb dX11_clear_15 rfl (lv_at hl 0 rfl) ?_
  exact e_I E hW rfl ⟨⟨_, rfl, (by first | omega | trivial)⟩, hF⟩ dX11_clear_16
def ms_X11_coin : List (Nat × Nat) := [(11, 15), (342, 0)]
def po_X11_coin (kp : Nat → Nat) (L : List Nat) (f0 : Nat → va_E) (h0 : Nat) (u1 : Int32) (u2 : Int32) : Option Value → (Nat → va_E) → Prop := fun v f => (∃ r : Int32, v = some (.int r) ∧ (True)) ∧ FM kp L ms_X11_coin f0 f
set_option maxHeartbeats 4000000 in
set_option maxRecDepth 100000 in
theorem c_X11_coin (l : Launch) (G : va_G) (cI cJ cZ cD cR cT : ClassId) (kp : Nat → Nat) (L : List Nat) (f0 : Nat → va_E) (hTH : TH cI cJ cZ cD cR cT kp L f0) (sz : Nat) (h0 : Nat) (u1 : Int32) (u2 : Int32) (rh0 : RK kp L h0 11) : Met l yX11_coin (Cond.code yX11_coin cX11_coin 4 (some .int) :: wTab) ({ frames := 2, cells := 0, slots := 0, locals := 82 }) (va_Pc [.ref h0, .int u1, .int u2] (PreW G (tys6 cI cJ cZ cD cR cT) (va_pl L f0) sz)) (QT (po_X11_coin kp L f0 h0 u1 u2) G cI cJ cZ cD cR cT (va_A (va_pl L f0) sz) kp L) 0 0 (va_A (va_pl L f0) sz) := by
  refine metT (by decide) (Nat.le_of_ble_eq_true rfl) hTH ?_
  intro p e s m below meth c A ls E hW hl
  obtain ⟨hx, hb, -, hml, hown, hts, -, -, -⟩ := id E
  have hF : FM kp L ms_X11_coin f0 f0 := FM.rf
  have hl : lv_has ls 4 [(0, .ref h0), (1, .int u1), (2, .int u2)] := hl
  refine lv_aload_n hx hb dX11_coin_0 rfl (lv_at hl 0 rfl) ?_
  refine fg_RX11_12 E hW rh0 dX11_coin_1 (fun a1 m2 r3 => ?_)
  refine fg_RX11_63 E hW r3 dX11_coin_4 (fun a4 m5 r6 => ?_)
  refine lv_astore_n (lv' := [(3, .ref a4), (0, .ref h0), (1, .int u1), (2, .int u2)]) hx hb dX11_coin_7 rfl hl (by decide) rfl (fun ls hl => ?_)
  refine lv_iload_n hx hb dX11_coin_8 rfl (lv_at hl 3 rfl) ?_
  refine lv_iconst (v := 0) hx hb dX11_coin_9 (by decide) ?_
  refine lv_ldc (v := 1000000) hx hb hown (hts _ tw_602) dX11_coin_10 ?_
  refine t_callS (As := [.int u2, .int 0, .int 1000000]) (rest := []) E hW (c_X11_within l G cI cJ cZ cD cR cT kp L f0 hW.2.2.2 _ u2 0 1000000 (by decide)) wk_X11_within tw_599 rfl ⟨Nat.le_of_ble_eq_true rfl, Nat.le_of_ble_eq_true rfl⟩ ⟨rfl, rfl⟩ hl.1 rfl (Nat.le_of_ble_eq_true rfl) dX11_coin_12 ⟨Nat.le_of_ble_eq_true rfl, Nat.le_of_ble_eq_true rfl⟩ (fun v7 f8 H locs q9 hW => ?_)
  obtain ⟨⟨x11, rfl, p12⟩, g10⟩ := q9
  have p12 : (x11.toInt = 1 ∧ 0 ≤ u2.toInt ∧ u2.toInt ≤ 1000000) ∨ (x11.toInt = 0 ∧ (u2.toInt < 0 ∨ 1000000 < u2.toInt)) := p12
  have hF := FM.tr hF g10 rfl
  refine q_if_ne (tgt := 24) hx hb dX11_coin_15 (by decide) rfl (fun c13 => ?_) (fun c13 => ?_)
  · have q14 : 0 ≤ u2.toInt ∧ u2.toInt ≤ 1000000 := by omega
    clear p12
    refine lv_aload_n hx hb dX11_coin_24 rfl (lv_at hl 0 rfl) ?_
    refine lv_iload_n hx hb dX11_coin_25 rfl (lv_at hl 2 rfl) ?_
    refine t_callV (As := [.int u1]) (rest := []) E hW (c_X4_has l G cI cJ cZ cD cR cT kp L f8 hW.2.2.2 _ a4 u1 r6) r6 (by decide) rfl wk_X4_has tw_619 rfl ⟨Nat.le_of_ble_eq_true rfl, Nat.le_of_ble_eq_true rfl⟩ ⟨rfl, rfl⟩ hl.1 rfl (Nat.le_of_ble_eq_true rfl) dX11_coin_26 ⟨Nat.le_of_ble_eq_true rfl, Nat.le_of_ble_eq_true rfl⟩ (fun v15 f16 H locs q17 hW => ?_)
    obtain ⟨⟨x19, rfl, p20⟩, g18⟩ := q17
    have hF := FM.tr hF g18 rfl
    refine q_if_ne (tgt := 39) hx hb dX11_coin_29 (by decide) rfl (fun c21 => ?_) (fun c21 => ?_)
    · have q22 : 0 ≤ u1.toInt ∧ u1.toInt ≤ 39 := by omega
      clear p20
      refine lv_aload_n hx hb dX11_coin_39 rfl (lv_at hl 0 rfl) ?_
      refine lv_iload_n hx hb dX11_coin_40 rfl (lv_at hl 2 rfl) ?_
      refine lv_iload_n hx hb dX11_coin_41 rfl (lv_at hl 3 rfl) ?_
      refine t_callV (As := [.int u1, .int u2]) (rest := []) E hW (c_X4_gain l G cI cJ cZ cD cR cT kp L f16 hW.2.2.2 _ a4 u1 u2 r6 (by omega) (by omega)) r6 (by decide) rfl wk_X4_gain tw_631 rfl ⟨Nat.le_of_ble_eq_true rfl, Nat.le_of_ble_eq_true rfl⟩ ⟨rfl, rfl⟩ hl.1 rfl (Nat.le_of_ble_eq_true rfl) dX11_coin_42 ⟨Nat.le_of_ble_eq_true rfl, Nat.le_of_ble_eq_true rfl⟩ (fun v23 f24 H locs q25 hW => ?_)
      obtain ⟨rfl, g26⟩ := q25
      have hF := FM.tr hF g26 rfl
      refine lv_aload_n hx hb dX11_coin_45 rfl (lv_at hl 1 rfl) ?_
      refine lv_aload_n hx hb dX11_coin_46 rfl (lv_at hl 0 rfl) ?_
      refine fg_RX11_94 E hW r6 dX11_coin_47 (fun a27 m28 r29 => ?_)
      refine lv_iload_n hx hb dX11_coin_50 rfl (lv_at hl 2 rfl) ?_
      refine gl_342 E hW r29 ⟨by omega, by omega⟩ dX11_coin_51 (fun y30 m31 => ?_)
      refine t_callV (As := [.int y30]) (rest := []) E hW (c_X11_accept l G cI cJ cZ cD cR cT kp L f24 hW.2.2.2 _ h0 y30 rh0) rh0 (by decide) rfl wk_X11_accept tw_611 rfl ⟨Nat.le_of_ble_eq_true rfl, Nat.le_of_ble_eq_true rfl⟩ ⟨rfl, rfl⟩ hl.1 rfl (Nat.le_of_ble_eq_true rfl) dX11_coin_52 ⟨Nat.le_of_ble_eq_true rfl, Nat.le_of_ble_eq_true rfl⟩ (fun v33 f34 H locs q35 hW => ?_)
      obtain ⟨⟨x37, rfl, p38⟩, g36⟩ := q35
      clear p38
      have hF := FM.tr hF g36 rfl
      exact e_I E hW rfl ⟨⟨_, rfl, trivial⟩, hF⟩ dX11_coin_55
    · clear p20
      refine lv_aload_n hx hb dX11_coin_32 rfl (lv_at hl 1 rfl) ?_
      refine lv_bipush (v := (-2)) hx hb dX11_coin_33 (by decide) ?_
      refine t_callV (As := [.int (-2)]) (rest := []) E hW (c_X11_refuse l G cI cJ cZ cD cR cT kp L f16 hW.2.2.2 _ h0 (-2) rh0 (by decide)) rh0 (by decide) rfl wk_X11_refuse tw_603 rfl ⟨Nat.le_of_ble_eq_true rfl, Nat.le_of_ble_eq_true rfl⟩ ⟨rfl, rfl⟩ hl.1 rfl (Nat.le_of_ble_eq_true rfl) dX11_coin_35 ⟨Nat.le_of_ble_eq_true rfl, Nat.le_of_ble_eq_true rfl⟩ (fun v39 f40 H locs q41 hW => ?_)
      obtain ⟨⟨x43, rfl, p44⟩, g42⟩ := q41
      have p44 : (-6 : Int) ≤ x43.toInt ∧ x43.toInt ≤ -1 := p44
      have hF := FM.tr hF g42 rfl
      exact e_I E hW rfl ⟨⟨_, rfl, trivial⟩, hF⟩ dX11_coin_38
  · have q45 : (u2.toInt < 0 ∨ 1000000 < u2.toInt) := by omega
    clear p12
    refine lv_aload_n hx hb dX11_coin_18 rfl (lv_at hl 1 rfl) ?_
    refine lv_iconst (v := (-1)) hx hb dX11_coin_19 (by decide) ?_
    refine t_callV (As := [.int (-1)]) (rest := []) E hW (c_X11_refuse l G cI cJ cZ cD cR cT kp L f8 hW.2.2.2 _ h0 (-1) rh0 (by decide)) rh0 (by decide) rfl wk_X11_refuse tw_603 rfl ⟨Nat.le_of_ble_eq_true rfl, Nat.le_of_ble_eq_true rfl⟩ ⟨rfl, rfl⟩ hl.1 rfl (Nat.le_of_ble_eq_true rfl) dX11_coin_20 ⟨Nat.le_of_ble_eq_true rfl, Nat.le_of_ble_eq_true rfl⟩ (fun v46 f47 H locs q48 hW => ?_)
    obtain ⟨⟨x50, rfl, p51⟩, g49⟩ := q48
    have p51 : (-6 : Int) ≤ x50.toInt ∧ x50.toInt ≤ -1 := p51
    have hF := FM.tr hF g49 rfl
    exact e_I E hW rfl ⟨⟨_, rfl, trivial⟩, hF⟩ dX11_coin_23
def ms_X11_count : List (Nat × Nat) := []
def po_X11_count (kp : Nat → Nat) (L : List Nat) (f0 : Nat → va_E) (h0 : Nat) (u1 : Int32) : Option Value → (Nat → va_E) → Prop := fun v f => (∃ r : Int32, v = some (.int r) ∧ (True)) ∧ FM kp L ms_X11_count f0 f
set_option maxHeartbeats 4000000 in
set_option maxRecDepth 100000 in
theorem c_X11_count (l : Launch) (G : va_G) (cI cJ cZ cD cR cT : ClassId) (kp : Nat → Nat) (L : List Nat) (f0 : Nat → va_E) (hTH : TH cI cJ cZ cD cR cT kp L f0) (sz : Nat) (h0 : Nat) (u1 : Int32) (rh0 : RK kp L h0 11) : Met l yX11_count (Cond.code yX11_count cX11_count 2 (some .int) :: wTab) ({ frames := 1, cells := 0, slots := 0, locals := 40 }) (va_Pc [.ref h0, .int u1] (PreW G (tys6 cI cJ cZ cD cR cT) (va_pl L f0) sz)) (QT (po_X11_count kp L f0 h0 u1) G cI cJ cZ cD cR cT (va_A (va_pl L f0) sz) kp L) 0 0 (va_A (va_pl L f0) sz) := by
  refine metT (by decide) (Nat.le_of_ble_eq_true rfl) hTH ?_
  intro p e s m below meth c A ls E hW hl
  obtain ⟨hx, hb, -, hml, hown, hts, -, -, -⟩ := id E
  have hF : FM kp L ms_X11_count f0 f0 := FM.rf
  have hl : lv_has ls 2 [(0, .ref h0), (1, .int u1)] := hl
  refine lv_iload_n hx hb dX11_count_0 rfl (lv_at hl 1 rfl) ?_
  by_cases c1 : u1.toInt = 0
  · refine lv_tableIn (tgt := 56) hx hb dX11_count_1 (by omega) (by omega) (by rw [c1]; rfl) (by decide) ?_
    refine lv_aload_n hx hb dX11_count_56 rfl (lv_at hl 0 rfl) ?_
    refine fg_RX11_12 E hW rh0 dX11_count_57 (fun a2 m3 r4 => ?_)
    refine fg_RX11_255 E hW r4 dX11_count_60 (fun y5 m6 b7 => ?_)
    exact e_I E hW rfl ⟨⟨_, rfl, trivial⟩, hF⟩ dX11_count_63
  by_cases c8 : u1.toInt = 1
  · refine lv_tableIn (tgt := 64) hx hb dX11_count_1 (by omega) (by omega) (by rw [c8]; rfl) (by decide) ?_
    refine lv_aload_n hx hb dX11_count_64 rfl (lv_at hl 0 rfl) ?_
    refine fg_RX11_12 E hW rh0 dX11_count_65 (fun a9 m10 r11 => ?_)
    refine fg_RX11_63 E hW r11 dX11_count_68 (fun a12 m13 r14 => ?_)
    refine fg_RX11_67 E hW r14 dX11_count_71 (fun y15 m16 b17 => ?_)
    exact e_I E hW rfl ⟨⟨_, rfl, trivial⟩, hF⟩ dX11_count_74
  by_cases c18 : u1.toInt = 2
  · refine lv_tableIn (tgt := 75) hx hb dX11_count_1 (by omega) (by omega) (by rw [c18]; rfl) (by decide) ?_
    refine lv_aload_n hx hb dX11_count_75 rfl (lv_at hl 0 rfl) ?_
    refine fg_RX11_12 E hW rh0 dX11_count_76 (fun a19 m20 r21 => ?_)
    refine fg_RX11_114 E hW r21 dX11_count_79 (fun a22 m23 r24 => ?_)
    refine fg_RX11_118 E hW r24 dX11_count_82 (fun y25 m26 b27 => ?_)
    exact e_I E hW rfl ⟨⟨_, rfl, trivial⟩, hF⟩ dX11_count_85
  by_cases c28 : u1.toInt = 3
  · refine lv_tableIn (tgt := 86) hx hb dX11_count_1 (by omega) (by omega) (by rw [c28]; rfl) (by decide) ?_
    refine lv_aload_n hx hb dX11_count_86 rfl (lv_at hl 0 rfl) ?_
    refine fg_RX11_12 E hW rh0 dX11_count_87 (fun a29 m30 r31 => ?_)
    refine fg_RX11_114 E hW r31 dX11_count_90 (fun a32 m33 r34 => ?_)
    refine fg_RX11_130 E hW r34 dX11_count_93 (fun y35 m36 b37 => ?_)
    exact e_I E hW rfl ⟨⟨_, rfl, trivial⟩, hF⟩ dX11_count_96
  by_cases c38 : u1.toInt = 4
  · refine lv_tableIn (tgt := 97) hx hb dX11_count_1 (by omega) (by omega) (by rw [c38]; rfl) (by decide) ?_
    refine lv_aload_n hx hb dX11_count_97 rfl (lv_at hl 0 rfl) ?_
    refine fg_RX11_12 E hW rh0 dX11_count_98 (fun a39 m40 r41 => ?_)
    refine fg_RX11_219 E hW r41 dX11_count_101 (fun a42 m43 r44 => ?_)
    refine fg_RX11_223 E hW r44 dX11_count_104 (fun y45 m46 b47 => ?_)
    exact e_I E hW rfl ⟨⟨_, rfl, trivial⟩, hF⟩ dX11_count_107
  by_cases c48 : u1.toInt = 5
  · refine lv_tableIn (tgt := 108) hx hb dX11_count_1 (by omega) (by omega) (by rw [c48]; rfl) (by decide) ?_
    refine lv_aload_n hx hb dX11_count_108 rfl (lv_at hl 0 rfl) ?_
    refine fg_RX11_12 E hW rh0 dX11_count_109 (fun a49 m50 r51 => ?_)
    refine fg_RX11_170 E hW r51 dX11_count_112 (fun a52 m53 r54 => ?_)
    refine fg_RX11_251 E hW r54 dX11_count_115 (fun y55 m56 b57 => ?_)
    exact e_I E hW rfl ⟨⟨_, rfl, trivial⟩, hF⟩ dX11_count_118
  by_cases c58 : u1.toInt = 6
  · refine lv_tableIn (tgt := 119) hx hb dX11_count_1 (by omega) (by omega) (by rw [c58]; rfl) (by decide) ?_
    refine lv_aload_n hx hb dX11_count_119 rfl (lv_at hl 0 rfl) ?_
    refine fg_RX11_12 E hW rh0 dX11_count_120 (fun a59 m60 r61 => ?_)
    refine fg_RX11_98 E hW r61 dX11_count_123 (fun a62 m63 r64 => ?_)
    refine fg_RX11_288 E hW r64 dX11_count_126 (fun y65 m66 => ?_)
    exact e_I E hW rfl ⟨⟨_, rfl, trivial⟩, hF⟩ dX11_count_129
  by_cases c68 : u1.toInt = 7
  · refine lv_tableIn (tgt := 130) hx hb dX11_count_1 (by omega) (by omega) (by rw [c68]; rfl) (by decide) ?_
    refine lv_aload_n hx hb dX11_count_130 rfl (lv_at hl 0 rfl) ?_
    refine fg_RX11_12 E hW rh0 dX11_count_131 (fun a69 m70 r71 => ?_)
    refine fg_RX11_98 E hW r71 dX11_count_134 (fun a72 m73 r74 => ?_)
    refine fg_RX11_297 E hW r74 dX11_count_137 (fun y75 m76 b77 => ?_)
    exact e_I E hW rfl ⟨⟨_, rfl, trivial⟩, hF⟩ dX11_count_140
  by_cases c78 : u1.toInt = 8
  · refine lv_tableIn (tgt := 141) hx hb dX11_count_1 (by omega) (by omega) (by rw [c78]; rfl) (by decide) ?_
    refine lv_aload_n hx hb dX11_count_141 rfl (lv_at hl 0 rfl) ?_
    refine fg_RX11_309 E hW rh0 dX11_count_142 (fun y79 m80 b81 => ?_)
    exact e_I E hW rfl ⟨⟨_, rfl, trivial⟩, hF⟩ dX11_count_145
  by_cases c82 : u1.toInt = 9
  · refine lv_tableIn (tgt := 146) hx hb dX11_count_1 (by omega) (by omega) (by rw [c82]; rfl) (by decide) ?_
    refine lv_aload_n hx hb dX11_count_146 rfl (lv_at hl 0 rfl) ?_
    refine fg_RX11_30 E hW rh0 dX11_count_147 (fun a83 m84 r85 => ?_)
    refine fg_RX11_209 E hW r85 dX11_count_150 (fun y86 m87 b88 => ?_)
    exact e_I E hW rfl ⟨⟨_, rfl, trivial⟩, hF⟩ dX11_count_153
  refine lv_tableOut (tgt := 154) hx hb dX11_count_1 (by omega) (by decide) ?_
  refine lv_iconst (v := (-1)) hx hb dX11_count_154 (by decide) ?_
  exact e_I E hW rfl ⟨⟨_, rfl, trivial⟩, hF⟩ dX11_count_155
def ms_X11_isWeek : List (Nat × Nat) := []
def po_X11_isWeek (kp : Nat → Nat) (L : List Nat) (f0 : Nat → va_E) (u1 : Int32) : Option Value → (Nat → va_E) → Prop := fun v f => (∃ r : Int32, v = some (.int r) ∧ ((r.toInt = 1 ∧ 0 ≤ u1.toInt ∧ u1.toInt ≤ 399) ∨ (r.toInt = 0 ∧ (u1.toInt < 0 ∨ 399 < u1.toInt)))) ∧ FM kp L ms_X11_isWeek f0 f
set_option maxHeartbeats 4000000 in
set_option maxRecDepth 100000 in
theorem c_X11_isWeek (l : Launch) (G : va_G) (cI cJ cZ cD cR cT : ClassId) (kp : Nat → Nat) (L : List Nat) (f0 : Nat → va_E) (hTH : TH cI cJ cZ cD cR cT kp L f0) (sz : Nat) (u1 : Int32) : Met l yX11_isWeek (Cond.code yX11_isWeek cX11_isWeek 1 (some .boolean) :: wTab) ({ frames := 1, cells := 0, slots := 0, locals := 40 }) (va_Pc [.int u1] (PreW G (tys6 cI cJ cZ cD cR cT) (va_pl L f0) sz)) (QT (po_X11_isWeek kp L f0 u1) G cI cJ cZ cD cR cT (va_A (va_pl L f0) sz) kp L) 0 0 (va_A (va_pl L f0) sz) := by
  refine metT (by decide) (Nat.le_of_ble_eq_true rfl) hTH ?_
  intro p e s m below meth c A ls E hW hl
  obtain ⟨hx, hb, -, hml, hown, hts, -, -, -⟩ := id E
  have hF : FM kp L ms_X11_isWeek f0 f0 := FM.rf
  have hl : lv_has ls 1 [(0, .int u1)] := hl
  refine lv_iload_n hx hb dX11_isWeek_0 rfl (lv_at hl 0 rfl) ?_
  refine q_if_lt (tgt := 15) hx hb dX11_isWeek_1 (by decide) rfl (fun c1 => ?_) (fun c1 => ?_)
  · refine lv_iconst (v := 0) hx hb dX11_isWeek_15 (by decide) ?_
    exact e_Z E hW rfl (by decide) ⟨⟨_, rfl, (by have hk : (0 : Int32).toInt = 0 := rfl; first | decide | omega)⟩, hF⟩ dX11_isWeek_16
  · refine lv_iload_n hx hb dX11_isWeek_4 rfl (lv_at hl 0 rfl) ?_
    refine lv_sipush (v := 399) hx hb dX11_isWeek_5 (by decide) ?_
    refine q_icmp_gt (Y := 399) (tgt := 15) hx hb dX11_isWeek_8 (by decide) rfl rfl (fun c2 => ?_) (fun c2 => ?_)
    · refine lv_iconst (v := 0) hx hb dX11_isWeek_15 (by decide) ?_
      exact e_Z E hW rfl (by decide) ⟨⟨_, rfl, (by have hk : (0 : Int32).toInt = 0 := rfl; first | decide | omega)⟩, hF⟩ dX11_isWeek_16
    · refine lv_iconst (v := 1) hx hb dX11_isWeek_11 (by decide) ?_
      refine lv_goto (tgt := 16) hx hb dX11_isWeek_12 (by decide) ?_
      exact e_Z E hW rfl (by decide) ⟨⟨_, rfl, (by have hk : (1 : Int32).toInt = 1 := rfl; first | decide | omega)⟩, hF⟩ dX11_isWeek_16
def ms_X11_crop : List (Nat × Nat) := []
def po_X11_crop (kp : Nat → Nat) (L : List Nat) (f0 : Nat → va_E) (h0 : Nat) (u1 : Int32) (u2 : Int32) : Option Value → (Nat → va_E) → Prop := fun v f => (∃ r : Int32, v = some (.int r) ∧ (True)) ∧ FM kp L ms_X11_crop f0 f
set_option maxHeartbeats 4000000 in
set_option maxRecDepth 100000 in
theorem c_X11_crop (l : Launch) (G : va_G) (cI cJ cZ cD cR cT : ClassId) (kp : Nat → Nat) (L : List Nat) (f0 : Nat → va_E) (hTH : TH cI cJ cZ cD cR cT kp L f0) (sz : Nat) (h0 : Nat) (u1 : Int32) (u2 : Int32) (rh0 : RK kp L h0 11) : Met l yX11_crop (Cond.code yX11_crop cX11_crop 3 (some .int) :: wTab) ({ frames := 2, cells := 0, slots := 0, locals := 63 }) (va_Pc [.ref h0, .int u1, .int u2] (PreW G (tys6 cI cJ cZ cD cR cT) (va_pl L f0) sz)) (QT (po_X11_crop kp L f0 h0 u1 u2) G cI cJ cZ cD cR cT (va_A (va_pl L f0) sz) kp L) 0 0 (va_A (va_pl L f0) sz) := by
  refine metT (by decide) (Nat.le_of_ble_eq_true rfl) hTH ?_
  intro p e s m below meth c A ls E hW hl
  obtain ⟨hx, hb, -, hml, hown, hts, -, -, -⟩ := id E
  have hF : FM kp L ms_X11_crop f0 f0 := FM.rf
  have hl : lv_has ls 3 [(0, .ref h0), (1, .int u1), (2, .int u2)] := hl
  refine lv_aload_n hx hb dX11_crop_0 rfl (lv_at hl 0 rfl) ?_
  refine fg_RX11_12 E hW rh0 dX11_crop_1 (fun a1 m2 r3 => ?_)
  refine fg_RX11_114 E hW r3 dX11_crop_4 (fun a4 m5 r6 => ?_)
  refine lv_iload_n hx hb dX11_crop_7 rfl (lv_at hl 1 rfl) ?_
  refine t_callV (As := [.int u1]) (rest := []) E hW (c_X1_has l G cI cJ cZ cD cR cT kp L f0 hW.2.2.2 _ a4 u1 r6) r6 (by decide) rfl wk_X1_has tw_683 rfl ⟨Nat.le_of_ble_eq_true rfl, Nat.le_of_ble_eq_true rfl⟩ ⟨rfl, rfl⟩ hl.1 rfl (Nat.le_of_ble_eq_true rfl) dX11_crop_8 ⟨Nat.le_of_ble_eq_true rfl, Nat.le_of_ble_eq_true rfl⟩ (fun v7 f8 H locs q9 hW => ?_)
  obtain ⟨⟨x11, rfl, p12⟩, g10⟩ := q9
  have hF := FM.tr hF g10 rfl
  refine q_if_eq (tgt := 21) hx hb dX11_crop_11 (by decide) rfl (fun c13 => ?_) (fun c13 => ?_)
  · clear p12
    refine lv_iconst (v := (-1)) hx hb dX11_crop_21 (by decide) ?_
    exact e_I E hW rfl ⟨⟨_, rfl, trivial⟩, hF⟩ dX11_crop_22
  · have q14 : 0 ≤ u1.toInt ∧ u1.toInt ≤ 39 := by omega
    clear p12
    refine lv_iload_n hx hb dX11_crop_14 rfl (lv_at hl 2 rfl) ?_
    refine t_callS (As := [.int u2]) (rest := []) E hW (c_X11_isWeek l G cI cJ cZ cD cR cT kp L f8 hW.2.2.2 _ u2) wk_X11_isWeek tw_780 rfl ⟨Nat.le_of_ble_eq_true rfl, Nat.le_of_ble_eq_true rfl⟩ ⟨rfl, rfl⟩ hl.1 rfl (Nat.le_of_ble_eq_true rfl) dX11_crop_15 ⟨Nat.le_of_ble_eq_true rfl, Nat.le_of_ble_eq_true rfl⟩ (fun v15 f16 H locs q17 hW => ?_)
    obtain ⟨⟨x19, rfl, p20⟩, g18⟩ := q17
    have hF := FM.tr hF g18 rfl
    refine q_if_ne (tgt := 23) hx hb dX11_crop_18 (by decide) rfl (fun c21 => ?_) (fun c21 => ?_)
    · have q22 : 0 ≤ u2.toInt ∧ u2.toInt ≤ 399 := by omega
      clear p20
      refine lv_aload_n hx hb dX11_crop_23 rfl (lv_at hl 0 rfl) ?_
      refine fg_RX11_12 E hW rh0 dX11_crop_24 (fun a23 m24 r25 => ?_)
      obtain rfl : a1 = a23 := (((fm_R g18 rh0 rfl).trans ((fm_R g10 rh0 rfl).trans m2))).symm.trans m24
      refine fg_RX11_194 E hW r3 dX11_crop_27 (fun a26 m27 r28 => ?_)
      refine lv_iload_n hx hb dX11_crop_30 rfl (lv_at hl 1 rfl) ?_
      refine lv_iload_n hx hb dX11_crop_31 rfl (lv_at hl 2 rfl) ?_
      refine t_callV (As := [.int u1, .int u2]) (rest := []) E hW (c_X7_sacksOf l G cI cJ cZ cD cR cT kp L f16 hW.2.2.2 _ a26 u1 u2 r28 (by omega) (by omega)) r28 (by decide) rfl wk_X7_sacksOf tw_843 rfl ⟨Nat.le_of_ble_eq_true rfl, Nat.le_of_ble_eq_true rfl⟩ ⟨rfl, rfl⟩ hl.1 rfl (Nat.le_of_ble_eq_true rfl) dX11_crop_32 ⟨Nat.le_of_ble_eq_true rfl, Nat.le_of_ble_eq_true rfl⟩ (fun v29 f30 H locs q31 hW => ?_)
      obtain ⟨⟨x33, rfl, p34⟩, g32⟩ := q31
      clear p34
      have hF := FM.tr hF g32 rfl
      exact e_I E hW rfl ⟨⟨_, rfl, trivial⟩, hF⟩ dX11_crop_35
    · have q35 : (u2.toInt < 0 ∨ 399 < u2.toInt) := by omega
      clear p20
      refine lv_iconst (v := (-1)) hx hb dX11_crop_21 (by decide) ?_
      exact e_I E hW rfl ⟨⟨_, rfl, trivial⟩, hF⟩ dX11_crop_22
def ms_X11_crops : List (Nat × Nat) := [(11, 12), (11, 15), (770, 0), (771, 0)]
def po_X11_crops (kp : Nat → Nat) (L : List Nat) (f0 : Nat → va_E) (h0 : Nat) (u1 : Int32) (u2 : Int32) : Option Value → (Nat → va_E) → Prop := fun v f => (∃ r : Int32, v = some (.int r) ∧ (True)) ∧ FM kp L ms_X11_crops f0 f
set_option maxHeartbeats 4000000 in
set_option maxRecDepth 100000 in
theorem c_X11_crops (l : Launch) (G : va_G) (cI cJ cZ cD cR cT : ClassId) (kp : Nat → Nat) (L : List Nat) (f0 : Nat → va_E) (hTH : TH cI cJ cZ cD cR cT kp L f0) (sz : Nat) (h0 : Nat) (u1 : Int32) (u2 : Int32) (rh0 : RK kp L h0 11) : Met l yX11_crops (Cond.code yX11_crops cX11_crops 3 (some .int) :: wTab) ({ frames := 2, cells := 0, slots := 0, locals := 62 }) (va_Pc [.ref h0, .int u1, .int u2] (PreW G (tys6 cI cJ cZ cD cR cT) (va_pl L f0) sz)) (QT (po_X11_crops kp L f0 h0 u1 u2) G cI cJ cZ cD cR cT (va_A (va_pl L f0) sz) kp L) 0 0 (va_A (va_pl L f0) sz) := by
  refine metT (by decide) (Nat.le_of_ble_eq_true rfl) hTH ?_
  intro p e s m below meth c A ls E hW hl
  obtain ⟨hx, hb, -, hml, hown, hts, -, -, -⟩ := id E
  have hF : FM kp L ms_X11_crops f0 f0 := FM.rf
  have hl : lv_has ls 3 [(0, .ref h0), (1, .int u1), (2, .int u2)] := hl
  refine lv_iload_n hx hb dX11_crops_0 rfl (lv_at hl 1 rfl) ?_
  refine lv_iconst (v := 0) hx hb dX11_crops_1 (by decide) ?_
  refine lv_sipush (v := 10000) hx hb dX11_crops_2 (by decide) ?_
  refine t_callS (As := [.int u1, .int 0, .int 10000]) (rest := []) E hW (c_X11_within l G cI cJ cZ cD cR cT kp L f0 hW.2.2.2 _ u1 0 10000 (by decide)) wk_X11_within tw_599 rfl ⟨Nat.le_of_ble_eq_true rfl, Nat.le_of_ble_eq_true rfl⟩ ⟨rfl, rfl⟩ hl.1 rfl (Nat.le_of_ble_eq_true rfl) dX11_crops_5 ⟨Nat.le_of_ble_eq_true rfl, Nat.le_of_ble_eq_true rfl⟩ (fun v1 f2 H locs q3 hW => ?_)
  obtain ⟨⟨x5, rfl, p6⟩, g4⟩ := q3
  have p6 : (x5.toInt = 1 ∧ 0 ≤ u1.toInt ∧ u1.toInt ≤ 10000) ∨ (x5.toInt = 0 ∧ (u1.toInt < 0 ∨ 10000 < u1.toInt)) := p6
  have hF := FM.tr hF g4 rfl
  refine q_if_eq (tgt := 22) hx hb dX11_crops_8 (by decide) rfl (fun c7 => ?_) (fun c7 => ?_)
  · have q8 : (u1.toInt < 0 ∨ 10000 < u1.toInt) := by omega
    clear p6
    refine lv_aload_n hx hb dX11_crops_22 rfl (lv_at hl 0 rfl) ?_
    refine lv_iconst (v := (-1)) hx hb dX11_crops_23 (by decide) ?_
    refine t_callV (As := [.int (-1)]) (rest := []) E hW (c_X11_refuse l G cI cJ cZ cD cR cT kp L f2 hW.2.2.2 _ h0 (-1) rh0 (by decide)) rh0 (by decide) rfl wk_X11_refuse tw_603 rfl ⟨Nat.le_of_ble_eq_true rfl, Nat.le_of_ble_eq_true rfl⟩ ⟨rfl, rfl⟩ hl.1 rfl (Nat.le_of_ble_eq_true rfl) dX11_crops_24 ⟨Nat.le_of_ble_eq_true rfl, Nat.le_of_ble_eq_true rfl⟩ (fun v9 f10 H locs q11 hW => ?_)
    obtain ⟨⟨x13, rfl, p14⟩, g12⟩ := q11
    have p14 : (-6 : Int) ≤ x13.toInt ∧ x13.toInt ≤ -1 := p14
    have hF := FM.tr hF g12 rfl
    exact e_I E hW rfl ⟨⟨_, rfl, trivial⟩, hF⟩ dX11_crops_27
  · have q15 : 0 ≤ u1.toInt ∧ u1.toInt ≤ 10000 := by omega
    clear p6
    refine lv_iload_n hx hb dX11_crops_11 rfl (lv_at hl 2 rfl) ?_
    refine lv_iconst (v := 0) hx hb dX11_crops_12 (by decide) ?_
    refine lv_sipush (v := 10000) hx hb dX11_crops_13 (by decide) ?_
    refine t_callS (As := [.int u2, .int 0, .int 10000]) (rest := []) E hW (c_X11_within l G cI cJ cZ cD cR cT kp L f2 hW.2.2.2 _ u2 0 10000 (by decide)) wk_X11_within tw_599 rfl ⟨Nat.le_of_ble_eq_true rfl, Nat.le_of_ble_eq_true rfl⟩ ⟨rfl, rfl⟩ hl.1 rfl (Nat.le_of_ble_eq_true rfl) dX11_crops_16 ⟨Nat.le_of_ble_eq_true rfl, Nat.le_of_ble_eq_true rfl⟩ (fun v16 f17 H locs q18 hW => ?_)
    obtain ⟨⟨x20, rfl, p21⟩, g19⟩ := q18
    have p21 : (x20.toInt = 1 ∧ 0 ≤ u2.toInt ∧ u2.toInt ≤ 10000) ∨ (x20.toInt = 0 ∧ (u2.toInt < 0 ∨ 10000 < u2.toInt)) := p21
    have hF := FM.tr hF g19 rfl
    refine q_if_ne (tgt := 28) hx hb dX11_crops_19 (by decide) rfl (fun c22 => ?_) (fun c22 => ?_)
    · have q23 : 0 ≤ u2.toInt ∧ u2.toInt ≤ 10000 := by omega
      clear p21
      refine lv_aload_n hx hb dX11_crops_28 rfl (lv_at hl 0 rfl) ?_
      refine fg_RX11_312 E hW rh0 dX11_crops_29 (fun y24 m25 b26 => ?_)
      refine lv_iconst (v := 3) hx hb dX11_crops_32 (by decide) ?_
      refine q_icmp_lt (Y := 3) (tgt := 43) hx hb dX11_crops_33 (by decide) rfl rfl (fun c27 => ?_) (fun c27 => ?_)
      · refine lv_aload_n hx hb dX11_crops_43 rfl (lv_at hl 0 rfl) ?_
        refine fg_RX11_45 E hW rh0 dX11_crops_44 (fun a28 m29 r30 => ?_)
        refine lv_aload_n hx hb dX11_crops_47 rfl (lv_at hl 0 rfl) ?_
        refine fg_RX11_312 E hW rh0 dX11_crops_48 (fun y31 m32 b33 => ?_)
        obtain rfl : y24 = y31 := (m25).symm.trans m32
        refine lv_iload_n hx hb dX11_crops_51 rfl (lv_at hl 1 rfl) ?_
        refine gs_770 E hW r30 ⟨by omega, by omega⟩ dX11_crops_52 (fun f34 H locs e35 n36 g37 hW => ?_)
        have hF := FM.tr hF g37 rfl
        refine lv_aload_n hx hb dX11_crops_53 rfl (lv_at hl 0 rfl) ?_
        refine fg_RX11_48 E hW rh0 dX11_crops_54 (fun a38 m39 r40 => ?_)
        refine lv_aload_n hx hb dX11_crops_57 rfl (lv_at hl 0 rfl) ?_
        refine fg_RX11_312 E hW rh0 dX11_crops_58 (fun y41 m42 b43 => ?_)
        obtain rfl : y24 = y41 := (((fm_I g37 rh0 rfl).trans m32)).symm.trans m42
        refine lv_iload_n hx hb dX11_crops_61 rfl (lv_at hl 2 rfl) ?_
        refine gs_771 E hW r40 ⟨by omega, by omega⟩ dX11_crops_62 (fun f44 H locs e45 n46 g47 hW => ?_)
        have hF := FM.tr hF g47 rfl
        refine lv_aload_n hx hb dX11_crops_63 rfl (lv_at hl 0 rfl) ?_
        refine lv_dup hx hb dX11_crops_64 rfl ?_
        refine fg_RX11_312 E hW rh0 dX11_crops_65 (fun y48 m49 b50 => ?_)
        obtain rfl : y24 = y48 := (((fm_I g47 rh0 rfl).trans m42)).symm.trans m49
        refine lv_iconst (v := 1) hx hb dX11_crops_68 (by decide) ?_
        refine q_iadd (Y := 1) hx hb dX11_crops_69 rfl rfl (by omega) (fun x51 h52 => ?_)
        refine fp_RX11_312 E hW rh0 (by omega) dX11_crops_70 (fun f53 H locs e54 n55 g56 hW => ?_)
        have hF := FM.tr hF g56 rfl
        refine lv_aload_n hx hb dX11_crops_73 rfl (lv_at hl 0 rfl) ?_
        refine lv_aload_n hx hb dX11_crops_74 rfl (lv_at hl 0 rfl) ?_
        refine fg_RX11_312 E hW rh0 dX11_crops_75 (fun y57 m58 b59 => ?_)
        obtain rfl : x51 = y57 := (e54).symm.trans m58
        refine t_callV (As := [.int x51]) (rest := []) E hW (c_X11_accept l G cI cJ cZ cD cR cT kp L f53 hW.2.2.2 _ h0 x51 rh0) rh0 (by decide) rfl wk_X11_accept tw_611 rfl ⟨Nat.le_of_ble_eq_true rfl, Nat.le_of_ble_eq_true rfl⟩ ⟨rfl, rfl⟩ hl.1 rfl (Nat.le_of_ble_eq_true rfl) dX11_crops_78 ⟨Nat.le_of_ble_eq_true rfl, Nat.le_of_ble_eq_true rfl⟩ (fun v60 f61 H locs q62 hW => ?_)
        obtain ⟨⟨x64, rfl, p65⟩, g63⟩ := q62
        clear p65
        have hF := FM.tr hF g63 rfl
        exact e_I E hW rfl ⟨⟨_, rfl, trivial⟩, hF⟩ dX11_crops_81
      · refine lv_aload_n hx hb dX11_crops_36 rfl (lv_at hl 0 rfl) ?_
        refine lv_bipush (v := (-5)) hx hb dX11_crops_37 (by decide) ?_
        refine t_callV (As := [.int (-5)]) (rest := []) E hW (c_X11_refuse l G cI cJ cZ cD cR cT kp L f17 hW.2.2.2 _ h0 (-5) rh0 (by decide)) rh0 (by decide) rfl wk_X11_refuse tw_603 rfl ⟨Nat.le_of_ble_eq_true rfl, Nat.le_of_ble_eq_true rfl⟩ ⟨rfl, rfl⟩ hl.1 rfl (Nat.le_of_ble_eq_true rfl) dX11_crops_39 ⟨Nat.le_of_ble_eq_true rfl, Nat.le_of_ble_eq_true rfl⟩ (fun v66 f67 H locs q68 hW => ?_)
        obtain ⟨⟨x70, rfl, p71⟩, g69⟩ := q68
        have p71 : (-6 : Int) ≤ x70.toInt ∧ x70.toInt ≤ -1 := p71
        have hF := FM.tr hF g69 rfl
        exact e_I E hW rfl ⟨⟨_, rfl, trivial⟩, hF⟩ dX11_crops_42
    · have q72 : (u2.toInt < 0 ∨ 10000 < u2.toInt) := by omega
      clear p21
      refine lv_aload_n hx hb dX11_crops_22 rfl (lv_at hl 0 rfl) ?_
      refine lv_iconst (v := (-1)) hx hb dX11_crops_23 (by decide) ?_
      refine t_callV (As := [.int (-1)]) (rest := []) E hW (c_X11_refuse l G cI cJ cZ cD cR cT kp L f17 hW.2.2.2 _ h0 (-1) rh0 (by decide)) rh0 (by decide) rfl wk_X11_refuse tw_603 rfl ⟨Nat.le_of_ble_eq_true rfl, Nat.le_of_ble_eq_true rfl⟩ ⟨rfl, rfl⟩ hl.1 rfl (Nat.le_of_ble_eq_true rfl) dX11_crops_24 ⟨Nat.le_of_ble_eq_true rfl, Nat.le_of_ble_eq_true rfl⟩ (fun v73 f74 H locs q75 hW => ?_)
      obtain ⟨⟨x77, rfl, p78⟩, g76⟩ := q75
      have p78 : (-6 : Int) ≤ x77.toInt ∧ x77.toInt ≤ -1 := p78
      have hF := FM.tr hF g76 rfl
      exact e_I E hW rfl ⟨⟨_, rfl, trivial⟩, hF⟩ dX11_crops_27
def ms_X11_deal : List (Nat × Nat) := [(3, 2), (11, 15), (342, 0)]
def po_X11_deal (kp : Nat → Nat) (L : List Nat) (f0 : Nat → va_E) (h0 : Nat) (u1 : Int32) (u2 : Int32) (u3 : Int32) : Option Value → (Nat → va_E) → Prop := fun v f => (∃ r : Int32, v = some (.int r) ∧ (True)) ∧ FM kp L ms_X11_deal f0 f
set_option maxHeartbeats 4000000 in
set_option maxRecDepth 100000 in
theorem c_X11_deal (l : Launch) (G : va_G) (cI cJ cZ cD cR cT : ClassId) (kp : Nat → Nat) (L : List Nat) (f0 : Nat → va_E) (hTH : TH cI cJ cZ cD cR cT kp L f0) (sz : Nat) (h0 : Nat) (u1 : Int32) (u2 : Int32) (u3 : Int32) (rh0 : RK kp L h0 11) : Met l yX11_deal (Cond.code yX11_deal cX11_deal 6 (some .int) :: wTab) ({ frames := 3, cells := 0, slots := 0, locals := 86 }) (va_Pc [.ref h0, .int u1, .int u2, .int u3] (PreW G (tys6 cI cJ cZ cD cR cT) (va_pl L f0) sz)) (QT (po_X11_deal kp L f0 h0 u1 u2 u3) G cI cJ cZ cD cR cT (va_A (va_pl L f0) sz) kp L) 0 0 (va_A (va_pl L f0) sz) := by
  refine metT (by decide) (Nat.le_of_ble_eq_true rfl) hTH ?_
  intro p e s m below meth c A ls E hW hl
  obtain ⟨hx, hb, -, hml, hown, hts, -, -, -⟩ := id E
  have hF : FM kp L ms_X11_deal f0 f0 := FM.rf
  have hl : lv_has ls 6 [(0, .ref h0), (1, .int u1), (2, .int u2), (3, .int u3)] := hl
  refine lv_aload_n hx hb dX11_deal_0 rfl (lv_at hl 0 rfl) ?_
  refine fg_RX11_12 E hW rh0 dX11_deal_1 (fun a1 m2 r3 => ?_)
  refine fg_RX11_63 E hW r3 dX11_deal_4 (fun a4 m5 r6 => ?_)
  refine lv_astore (lv' := [(4, .ref a4), (0, .ref h0), (1, .int u1), (2, .int u2), (3, .int u3)]) hx hb dX11_deal_7 hl (by decide) rfl (fun ls hl => ?_)
  refine lv_aload_n hx hb dX11_deal_9 rfl (lv_at hl 1 rfl) ?_
  refine fg_RX11_12 E hW rh0 dX11_deal_10 (fun a7 m8 r9 => ?_)
  obtain rfl : a1 = a7 := (m2).symm.trans m8
  refine fg_RX11_98 E hW r3 dX11_deal_13 (fun a10 m11 r12 => ?_)
  refine lv_astore (lv' := [(5, .ref a10), (4, .ref a4), (0, .ref h0), (1, .int u1), (2, .int u2), (3, .int u3)]) hx hb dX11_deal_16 hl (by decide) rfl (fun ls hl => ?_)
  refine lv_iload_n hx hb dX11_deal_18 rfl (lv_at hl 5 rfl) ?_
  refine lv_iconst (v := 1) hx hb dX11_deal_19 (by decide) ?_
  refine lv_sipush (v := 10000) hx hb dX11_deal_20 (by decide) ?_
  refine t_callS (As := [.int u3, .int 1, .int 10000]) (rest := []) E hW (c_X11_within l G cI cJ cZ cD cR cT kp L f0 hW.2.2.2 _ u3 1 10000 (by decide)) wk_X11_within tw_599 rfl ⟨Nat.le_of_ble_eq_true rfl, Nat.le_of_ble_eq_true rfl⟩ ⟨rfl, rfl⟩ hl.1 rfl (Nat.le_of_ble_eq_true rfl) dX11_deal_23 ⟨Nat.le_of_ble_eq_true rfl, Nat.le_of_ble_eq_true rfl⟩ (fun v13 f14 H locs q15 hW => ?_)
  obtain ⟨⟨x17, rfl, p18⟩, g16⟩ := q15
  have p18 : (x17.toInt = 1 ∧ 1 ≤ u3.toInt ∧ u3.toInt ≤ 10000) ∨ (x17.toInt = 0 ∧ (u3.toInt < 1 ∨ 10000 < u3.toInt)) := p18
  have hF := FM.tr hF g16 rfl
  refine q_if_ne (tgt := 35) hx hb dX11_deal_26 (by decide) rfl (fun c19 => ?_) (fun c19 => ?_)
  · have q20 : 1 ≤ u3.toInt ∧ u3.toInt ≤ 10000 := by omega
    clear p18
    refine lv_aload hx hb dX11_deal_35 (lv_at hl 1 rfl) ?_
    refine lv_iload_n hx hb dX11_deal_37 rfl (lv_at hl 3 rfl) ?_
    refine t_callV (As := [.int u1]) (rest := []) E hW (c_X4_has l G cI cJ cZ cD cR cT kp L f14 hW.2.2.2 _ a4 u1 r6) r6 (by decide) rfl wk_X4_has tw_619 rfl ⟨Nat.le_of_ble_eq_true rfl, Nat.le_of_ble_eq_true rfl⟩ ⟨rfl, rfl⟩ hl.1 rfl (Nat.le_of_ble_eq_true rfl) dX11_deal_38 ⟨Nat.le_of_ble_eq_true rfl, Nat.le_of_ble_eq_true rfl⟩ (fun v21 f22 H locs q23 hW => ?_)
    obtain ⟨⟨x25, rfl, p26⟩, g24⟩ := q23
    have hF := FM.tr hF g24 rfl
    refine q_if_eq (tgt := 53) hx hb dX11_deal_41 (by decide) rfl (fun c27 => ?_) (fun c27 => ?_)
    · clear p26
      refine lv_aload_n hx hb dX11_deal_53 rfl (lv_at hl 2 rfl) ?_
      refine lv_bipush (v := (-2)) hx hb dX11_deal_54 (by decide) ?_
      refine t_callV (As := [.int (-2)]) (rest := []) E hW (c_X11_refuse l G cI cJ cZ cD cR cT kp L f22 hW.2.2.2 _ h0 (-2) rh0 (by decide)) rh0 (by decide) rfl wk_X11_refuse tw_603 rfl ⟨Nat.le_of_ble_eq_true rfl, Nat.le_of_ble_eq_true rfl⟩ ⟨rfl, rfl⟩ hl.1 rfl (Nat.le_of_ble_eq_true rfl) dX11_deal_56 ⟨Nat.le_of_ble_eq_true rfl, Nat.le_of_ble_eq_true rfl⟩ (fun v28 f29 H locs q30 hW => ?_)
      obtain ⟨⟨x32, rfl, p33⟩, g31⟩ := q30
      have p33 : (-6 : Int) ≤ x32.toInt ∧ x32.toInt ≤ -1 := p33
      have hF := FM.tr hF g31 rfl
      exact e_I E hW rfl ⟨⟨_, rfl, trivial⟩, hF⟩ dX11_deal_59
    · have q34 : 0 ≤ u1.toInt ∧ u1.toInt ≤ 39 := by omega
      clear p26
      refine lv_aload hx hb dX11_deal_44 (lv_at hl 1 rfl) ?_
      refine lv_iload_n hx hb dX11_deal_46 rfl (lv_at hl 4 rfl) ?_
      refine t_callV (As := [.int u2]) (rest := []) E hW (c_X4_has l G cI cJ cZ cD cR cT kp L f22 hW.2.2.2 _ a4 u2 r6) r6 (by decide) rfl wk_X4_has tw_619 rfl ⟨Nat.le_of_ble_eq_true rfl, Nat.le_of_ble_eq_true rfl⟩ ⟨rfl, rfl⟩ hl.1 rfl (Nat.le_of_ble_eq_true rfl) dX11_deal_47 ⟨Nat.le_of_ble_eq_true rfl, Nat.le_of_ble_eq_true rfl⟩ (fun v35 f36 H locs q37 hW => ?_)
      obtain ⟨⟨x39, rfl, p40⟩, g38⟩ := q37
      have hF := FM.tr hF g38 rfl
      refine q_if_ne (tgt := 60) hx hb dX11_deal_50 (by decide) rfl (fun c41 => ?_) (fun c41 => ?_)
      · have q42 : 0 ≤ u2.toInt ∧ u2.toInt ≤ 39 := by omega
        clear p40
        refine lv_iload_n hx hb dX11_deal_60 rfl (lv_at hl 3 rfl) ?_
        refine lv_iload_n hx hb dX11_deal_61 rfl (lv_at hl 4 rfl) ?_
        refine q_icmp_eq (tgt := 120) hx hb dX11_deal_62 (by decide) rfl rfl (fun c43 => ?_) (fun c43 => ?_)
        · refine lv_aload_n hx hb dX11_deal_120 rfl (lv_at hl 2 rfl) ?_
          refine lv_bipush (v := (-3)) hx hb dX11_deal_121 (by decide) ?_
          refine t_callV (As := [.int (-3)]) (rest := []) E hW (c_X11_refuse l G cI cJ cZ cD cR cT kp L f36 hW.2.2.2 _ h0 (-3) rh0 (by decide)) rh0 (by decide) rfl wk_X11_refuse tw_603 rfl ⟨Nat.le_of_ble_eq_true rfl, Nat.le_of_ble_eq_true rfl⟩ ⟨rfl, rfl⟩ hl.1 rfl (Nat.le_of_ble_eq_true rfl) dX11_deal_123 ⟨Nat.le_of_ble_eq_true rfl, Nat.le_of_ble_eq_true rfl⟩ (fun v44 f45 H locs q46 hW => ?_)
          obtain ⟨⟨x48, rfl, p49⟩, g47⟩ := q46
          have p49 : (-6 : Int) ≤ x48.toInt ∧ x48.toInt ≤ -1 := p49
          have hF := FM.tr hF g47 rfl
          exact e_I E hW rfl ⟨⟨_, rfl, trivial⟩, hF⟩ dX11_deal_126
        · refine lv_aload hx hb dX11_deal_65 (lv_at hl 1 rfl) ?_
          refine fg_RX11_94 E hW r6 dX11_deal_67 (fun a50 m51 r52 => ?_)
          refine lv_iload_n hx hb dX11_deal_70 rfl (lv_at hl 4 rfl) ?_
          refine gl_342 E hW r52 ⟨by omega, by omega⟩ dX11_deal_71 (fun y53 m54 => ?_)
          refine lv_iload_n hx hb dX11_deal_72 rfl (lv_at hl 5 rfl) ?_
          refine q_icmp_lt (tgt := 120) hx hb dX11_deal_73 (by decide) rfl rfl (fun c56 => ?_) (fun c56 => ?_)
          · refine lv_aload_n hx hb dX11_deal_120 rfl (lv_at hl 2 rfl) ?_
            refine lv_bipush (v := (-3)) hx hb dX11_deal_121 (by decide) ?_
            refine t_callV (As := [.int (-3)]) (rest := []) E hW (c_X11_refuse l G cI cJ cZ cD cR cT kp L f36 hW.2.2.2 _ h0 (-3) rh0 (by decide)) rh0 (by decide) rfl wk_X11_refuse tw_603 rfl ⟨Nat.le_of_ble_eq_true rfl, Nat.le_of_ble_eq_true rfl⟩ ⟨rfl, rfl⟩ hl.1 rfl (Nat.le_of_ble_eq_true rfl) dX11_deal_123 ⟨Nat.le_of_ble_eq_true rfl, Nat.le_of_ble_eq_true rfl⟩ (fun v57 f58 H locs q59 hW => ?_)
            obtain ⟨⟨x61, rfl, p62⟩, g60⟩ := q59
            have p62 : (-6 : Int) ≤ x61.toInt ∧ x61.toInt ≤ -1 := p62
            have hF := FM.tr hF g60 rfl
            exact e_I E hW rfl ⟨⟨_, rfl, trivial⟩, hF⟩ dX11_deal_126
          · refine lv_aload hx hb dX11_deal_76 (lv_at hl 1 rfl) ?_
            refine lv_iload_n hx hb dX11_deal_78 rfl (lv_at hl 3 rfl) ?_
            refine t_callV (As := [.int u1]) (rest := []) E hW (c_X4_isAbout l G cI cJ cZ cD cR cT kp L f36 hW.2.2.2 _ a4 u1 r6 (by omega)) r6 (by decide) rfl wk_X4_isAbout tw_1180 rfl ⟨Nat.le_of_ble_eq_true rfl, Nat.le_of_ble_eq_true rfl⟩ ⟨rfl, rfl⟩ hl.1 rfl (Nat.le_of_ble_eq_true rfl) dX11_deal_79 ⟨Nat.le_of_ble_eq_true rfl, Nat.le_of_ble_eq_true rfl⟩ (fun v63 f64 H locs q65 hW => ?_)
            obtain ⟨⟨x67, rfl, p68⟩, g66⟩ := q65
            have hF := FM.tr hF g66 rfl
            refine q_if_eq (tgt := 120) hx hb dX11_deal_82 (by decide) rfl (fun c69 => ?_) (fun c69 => ?_)
            · refine lv_aload_n hx hb dX11_deal_120 rfl (lv_at hl 2 rfl) ?_
              refine lv_bipush (v := (-3)) hx hb dX11_deal_121 (by decide) ?_
              refine t_callV (As := [.int (-3)]) (rest := []) E hW (c_X11_refuse l G cI cJ cZ cD cR cT kp L f64 hW.2.2.2 _ h0 (-3) rh0 (by decide)) rh0 (by decide) rfl wk_X11_refuse tw_603 rfl ⟨Nat.le_of_ble_eq_true rfl, Nat.le_of_ble_eq_true rfl⟩ ⟨rfl, rfl⟩ hl.1 rfl (Nat.le_of_ble_eq_true rfl) dX11_deal_123 ⟨Nat.le_of_ble_eq_true rfl, Nat.le_of_ble_eq_true rfl⟩ (fun v70 f71 H locs q72 hW => ?_)
              obtain ⟨⟨x74, rfl, p75⟩, g73⟩ := q72
              have p75 : (-6 : Int) ≤ x74.toInt ∧ x74.toInt ≤ -1 := p75
              have hF := FM.tr hF g73 rfl
              exact e_I E hW rfl ⟨⟨_, rfl, trivial⟩, hF⟩ dX11_deal_126
            · refine lv_aload hx hb dX11_deal_85 (lv_at hl 1 rfl) ?_
              refine lv_iload_n hx hb dX11_deal_87 rfl (lv_at hl 4 rfl) ?_
              refine t_callV (As := [.int u2]) (rest := []) E hW (c_X4_isAbout l G cI cJ cZ cD cR cT kp L f64 hW.2.2.2 _ a4 u2 r6 (by omega)) r6 (by decide) rfl wk_X4_isAbout tw_1180 rfl ⟨Nat.le_of_ble_eq_true rfl, Nat.le_of_ble_eq_true rfl⟩ ⟨rfl, rfl⟩ hl.1 rfl (Nat.le_of_ble_eq_true rfl) dX11_deal_88 ⟨Nat.le_of_ble_eq_true rfl, Nat.le_of_ble_eq_true rfl⟩ (fun v76 f77 H locs q78 hW => ?_)
              obtain ⟨⟨x80, rfl, p81⟩, g79⟩ := q78
              have hF := FM.tr hF g79 rfl
              refine q_if_eq (tgt := 120) hx hb dX11_deal_91 (by decide) rfl (fun c82 => ?_) (fun c82 => ?_)
              · refine lv_aload_n hx hb dX11_deal_120 rfl (lv_at hl 2 rfl) ?_
                refine lv_bipush (v := (-3)) hx hb dX11_deal_121 (by decide) ?_
                refine t_callV (As := [.int (-3)]) (rest := []) E hW (c_X11_refuse l G cI cJ cZ cD cR cT kp L f77 hW.2.2.2 _ h0 (-3) rh0 (by decide)) rh0 (by decide) rfl wk_X11_refuse tw_603 rfl ⟨Nat.le_of_ble_eq_true rfl, Nat.le_of_ble_eq_true rfl⟩ ⟨rfl, rfl⟩ hl.1 rfl (Nat.le_of_ble_eq_true rfl) dX11_deal_123 ⟨Nat.le_of_ble_eq_true rfl, Nat.le_of_ble_eq_true rfl⟩ (fun v83 f84 H locs q85 hW => ?_)
                obtain ⟨⟨x87, rfl, p88⟩, g86⟩ := q85
                have p88 : (-6 : Int) ≤ x87.toInt ∧ x87.toInt ≤ -1 := p88
                have hF := FM.tr hF g86 rfl
                exact e_I E hW rfl ⟨⟨_, rfl, trivial⟩, hF⟩ dX11_deal_126
              · refine lv_aload hx hb dX11_deal_94 (lv_at hl 1 rfl) ?_
                refine fg_RX11_141 E hW r6 dX11_deal_96 (fun a89 m90 r91 => ?_)
                refine lv_iload_n hx hb dX11_deal_99 rfl (lv_at hl 4 rfl) ?_
                refine gl_348 E hW r91 ⟨by omega, by omega⟩ dX11_deal_100 (fun y92 m93 => ?_)
                refine lv_iconst (v := 1) hx hb dX11_deal_101 (by decide) ?_
                refine q_icmp_ne (Y := 1) (tgt := 127) hx hb dX11_deal_102 (by decide) rfl rfl (fun c95 => ?_) (fun c95 => ?_)
                · refine lv_aload hx hb dX11_deal_127 (lv_at hl 0 rfl) ?_
                  refine fg_RX11_288 E hW r12 dX11_deal_129 (fun y96 m97 => ?_)
                  refine lv_sipush (v := 200) hx hb dX11_deal_132 (by decide) ?_
                  refine q_icmp_lt (Y := 200) (tgt := 145) hx hb dX11_deal_135 (by decide) rfl rfl (fun c99 => ?_) (fun c99 => ?_)
                  · refine lv_aload hx hb dX11_deal_145 (lv_at hl 1 rfl) ?_
                    refine fg_RX11_94 E hW r6 dX11_deal_147 (fun a100 m101 r102 => ?_)
                    obtain rfl : a50 = a100 := (((fm_R g79 r6 rfl).trans ((fm_R g66 r6 rfl).trans m51))).symm.trans m101
                    refine lv_iload_n hx hb dX11_deal_150 rfl (lv_at hl 4 rfl) ?_
                    refine lv_dup2_11 hx hb dX11_deal_151 rfl rfl ?_
                    refine gl_342 E hW r52 ⟨by omega, by omega⟩ dX11_deal_152 (fun y103 m104 => ?_)
                    obtain rfl : y53 = y103 := (((congrArg (fun z => aI z (u2 : Int32).toNatClampNeg) (fm_A g79 r52 (by decide) rfl)).trans ((congrArg (fun z => aI z (u2 : Int32).toNatClampNeg) (fm_A g66 r52 (by decide) rfl)).trans m54))).symm.trans m104
                    refine lv_iload_n hx hb dX11_deal_153 rfl (lv_at hl 5 rfl) ?_
                    have hb108 : -2147483648 ≤ y53.toInt ∧ y53.toInt ≤ 2147483647 := i32_b y53
                    refine q_isub hx hb dX11_deal_154 rfl rfl (by omega) (fun x106 h107 => ?_)
                    refine gs_342 E hW r52 ⟨by omega, by omega⟩ dX11_deal_155 (fun f109 H locs e110 n111 g112 hW => ?_)
                    have hF := FM.tr hF g112 rfl
                    refine lv_aload hx hb dX11_deal_156 (lv_at hl 1 rfl) ?_
                    refine lv_iload_n hx hb dX11_deal_158 rfl (lv_at hl 3 rfl) ?_
                    refine lv_iload_n hx hb dX11_deal_159 rfl (lv_at hl 5 rfl) ?_
                    refine t_callV (As := [.int u1, .int u3]) (rest := []) E hW (c_X4_gain l G cI cJ cZ cD cR cT kp L f109 hW.2.2.2 _ a4 u1 u3 r6 (by omega) (by omega)) r6 (by decide) rfl wk_X4_gain tw_631 rfl ⟨Nat.le_of_ble_eq_true rfl, Nat.le_of_ble_eq_true rfl⟩ ⟨rfl, rfl⟩ hl.1 rfl (Nat.le_of_ble_eq_true rfl) dX11_deal_160 ⟨Nat.le_of_ble_eq_true rfl, Nat.le_of_ble_eq_true rfl⟩ (fun v113 f114 H locs q115 hW => ?_)
                    obtain ⟨rfl, g116⟩ := q115
                    have hF := FM.tr hF g116 rfl
                    refine lv_aload hx hb dX11_deal_163 (lv_at hl 0 rfl) ?_
                    refine lv_dup hx hb dX11_deal_165 rfl ?_
                    refine fg_RX11_288 E hW r12 dX11_deal_166 (fun y117 m118 => ?_)
                    obtain rfl : y96 = y117 := (((fm_I g116 r12 rfl).trans ((fm_I g112 r12 rfl).trans m97))).symm.trans m118
                    refine lv_iconst (v := 1) hx hb dX11_deal_169 (by decide) ?_
                    have hb122 : -2147483648 ≤ y96.toInt ∧ y96.toInt ≤ 2147483647 := i32_b y96
                    refine q_iadd (Y := 1) hx hb dX11_deal_170 rfl rfl (by omega) (fun x120 h121 => ?_)
                    refine fp_RX11_288 E hW r12 dX11_deal_171 (fun f123 H locs e124 n125 g126 hW => ?_)
                    have hF := FM.tr hF g126 rfl
                    refine lv_aload_n hx hb dX11_deal_174 rfl (lv_at hl 2 rfl) ?_
                    refine lv_aload hx hb dX11_deal_175 (lv_at hl 0 rfl) ?_
                    refine fg_RX11_288 E hW r12 dX11_deal_177 (fun y127 m128 => ?_)
                    obtain rfl : x120 = y127 := (e124).symm.trans m128
                    refine t_callV (As := [.int x120]) (rest := []) E hW (c_X11_accept l G cI cJ cZ cD cR cT kp L f123 hW.2.2.2 _ h0 x120 rh0) rh0 (by decide) rfl wk_X11_accept tw_611 rfl ⟨Nat.le_of_ble_eq_true rfl, Nat.le_of_ble_eq_true rfl⟩ ⟨rfl, rfl⟩ hl.1 rfl (Nat.le_of_ble_eq_true rfl) dX11_deal_180 ⟨Nat.le_of_ble_eq_true rfl, Nat.le_of_ble_eq_true rfl⟩ (fun v130 f131 H locs q132 hW => ?_)
                    obtain ⟨⟨x134, rfl, p135⟩, g133⟩ := q132
                    clear p135
                    have hF := FM.tr hF g133 rfl
                    exact e_I E hW rfl ⟨⟨_, rfl, trivial⟩, hF⟩ dX11_deal_183
                  · refine lv_aload_n hx hb dX11_deal_138 rfl (lv_at hl 2 rfl) ?_
                    refine lv_bipush (v := (-5)) hx hb dX11_deal_139 (by decide) ?_
                    refine t_callV (As := [.int (-5)]) (rest := []) E hW (c_X11_refuse l G cI cJ cZ cD cR cT kp L f77 hW.2.2.2 _ h0 (-5) rh0 (by decide)) rh0 (by decide) rfl wk_X11_refuse tw_603 rfl ⟨Nat.le_of_ble_eq_true rfl, Nat.le_of_ble_eq_true rfl⟩ ⟨rfl, rfl⟩ hl.1 rfl (Nat.le_of_ble_eq_true rfl) dX11_deal_141 ⟨Nat.le_of_ble_eq_true rfl, Nat.le_of_ble_eq_true rfl⟩ (fun v136 f137 H locs q138 hW => ?_)
                    obtain ⟨⟨x140, rfl, p141⟩, g139⟩ := q138
                    have p141 : (-6 : Int) ≤ x140.toInt ∧ x140.toInt ≤ -1 := p141
                    have hF := FM.tr hF g139 rfl
                    exact e_I E hW rfl ⟨⟨_, rfl, trivial⟩, hF⟩ dX11_deal_144
                · refine lv_aload hx hb dX11_deal_105 (lv_at hl 1 rfl) ?_
                  refine lv_iload_n hx hb dX11_deal_107 rfl (lv_at hl 3 rfl) ?_
                  refine lv_iload_n hx hb dX11_deal_108 rfl (lv_at hl 4 rfl) ?_
                  refine lv_aload hx hb dX11_deal_109 (lv_at hl 0 rfl) ?_
                  refine fg_RX11_282 E hW r12 dX11_deal_111 (fun y142 m143 => ?_)
                  refine t_callV (As := [.int u1, .int u2, .int y142]) (rest := []) E hW (c_X4_keepsBan l G cI cJ cZ cD cR cT kp L f77 hW.2.2.2 _ a4 u1 u2 y142 r6 (by omega) (by omega)) r6 (by decide) rfl wk_X4_keepsBan tw_1184 rfl ⟨Nat.le_of_ble_eq_true rfl, Nat.le_of_ble_eq_true rfl⟩ ⟨rfl, rfl⟩ hl.1 rfl (Nat.le_of_ble_eq_true rfl) dX11_deal_114 ⟨Nat.le_of_ble_eq_true rfl, Nat.le_of_ble_eq_true rfl⟩ (fun v145 f146 H locs q147 hW => ?_)
                  obtain ⟨⟨x149, rfl, p150⟩, g148⟩ := q147
                  have hF := FM.tr hF g148 rfl
                  refine q_if_eq (tgt := 127) hx hb dX11_deal_117 (by decide) rfl (fun c151 => ?_) (fun c151 => ?_)
                  · refine lv_aload hx hb dX11_deal_127 (lv_at hl 0 rfl) ?_
                    refine fg_RX11_288 E hW r12 dX11_deal_129 (fun y152 m153 => ?_)
                    refine lv_sipush (v := 200) hx hb dX11_deal_132 (by decide) ?_
                    refine q_icmp_lt (Y := 200) (tgt := 145) hx hb dX11_deal_135 (by decide) rfl rfl (fun c155 => ?_) (fun c155 => ?_)
                    · refine lv_aload hx hb dX11_deal_145 (lv_at hl 1 rfl) ?_
                      refine fg_RX11_94 E hW r6 dX11_deal_147 (fun a156 m157 r158 => ?_)
                      obtain rfl : a50 = a156 := (((fm_R g148 r6 rfl).trans ((fm_R g79 r6 rfl).trans ((fm_R g66 r6 rfl).trans m51)))).symm.trans m157
                      refine lv_iload_n hx hb dX11_deal_150 rfl (lv_at hl 4 rfl) ?_
                      refine lv_dup2_11 hx hb dX11_deal_151 rfl rfl ?_
                      refine gl_342 E hW r52 ⟨by omega, by omega⟩ dX11_deal_152 (fun y159 m160 => ?_)
                      obtain rfl : y53 = y159 := (((congrArg (fun z => aI z (u2 : Int32).toNatClampNeg) (fm_A g148 r52 (by decide) rfl)).trans ((congrArg (fun z => aI z (u2 : Int32).toNatClampNeg) (fm_A g79 r52 (by decide) rfl)).trans ((congrArg (fun z => aI z (u2 : Int32).toNatClampNeg) (fm_A g66 r52 (by decide) rfl)).trans m54)))).symm.trans m160
                      refine lv_iload_n hx hb dX11_deal_153 rfl (lv_at hl 5 rfl) ?_
                      have hb164 : -2147483648 ≤ y53.toInt ∧ y53.toInt ≤ 2147483647 := i32_b y53
                      refine q_isub hx hb dX11_deal_154 rfl rfl (by omega) (fun x162 h163 => ?_)
                      refine gs_342 E hW r52 ⟨by omega, by omega⟩ dX11_deal_155 (fun f165 H locs e166 n167 g168 hW => ?_)
                      have hF := FM.tr hF g168 rfl
                      refine lv_aload hx hb dX11_deal_156 (lv_at hl 1 rfl) ?_
                      refine lv_iload_n hx hb dX11_deal_158 rfl (lv_at hl 3 rfl) ?_
                      refine lv_iload_n hx hb dX11_deal_159 rfl (lv_at hl 5 rfl) ?_
                      refine t_callV (As := [.int u1, .int u3]) (rest := []) E hW (c_X4_gain l G cI cJ cZ cD cR cT kp L f165 hW.2.2.2 _ a4 u1 u3 r6 (by omega) (by omega)) r6 (by decide) rfl wk_X4_gain tw_631 rfl ⟨Nat.le_of_ble_eq_true rfl, Nat.le_of_ble_eq_true rfl⟩ ⟨rfl, rfl⟩ hl.1 rfl (Nat.le_of_ble_eq_true rfl) dX11_deal_160 ⟨Nat.le_of_ble_eq_true rfl, Nat.le_of_ble_eq_true rfl⟩ (fun v169 f170 H locs q171 hW => ?_)
                      obtain ⟨rfl, g172⟩ := q171
                      have hF := FM.tr hF g172 rfl
                      refine lv_aload hx hb dX11_deal_163 (lv_at hl 0 rfl) ?_
                      refine lv_dup hx hb dX11_deal_165 rfl ?_
                      refine fg_RX11_288 E hW r12 dX11_deal_166 (fun y173 m174 => ?_)
                      obtain rfl : y152 = y173 := (((fm_I g172 r12 rfl).trans ((fm_I g168 r12 rfl).trans m153))).symm.trans m174
                      refine lv_iconst (v := 1) hx hb dX11_deal_169 (by decide) ?_
                      have hb178 : -2147483648 ≤ y152.toInt ∧ y152.toInt ≤ 2147483647 := i32_b y152
                      refine q_iadd (Y := 1) hx hb dX11_deal_170 rfl rfl (by omega) (fun x176 h177 => ?_)
                      refine fp_RX11_288 E hW r12 dX11_deal_171 (fun f179 H locs e180 n181 g182 hW => ?_)
                      have hF := FM.tr hF g182 rfl
                      refine lv_aload_n hx hb dX11_deal_174 rfl (lv_at hl 2 rfl) ?_
                      refine lv_aload hx hb dX11_deal_175 (lv_at hl 0 rfl) ?_
                      refine fg_RX11_288 E hW r12 dX11_deal_177 (fun y183 m184 => ?_)
                      obtain rfl : x176 = y183 := (e180).symm.trans m184
                      refine t_callV (As := [.int x176]) (rest := []) E hW (c_X11_accept l G cI cJ cZ cD cR cT kp L f179 hW.2.2.2 _ h0 x176 rh0) rh0 (by decide) rfl wk_X11_accept tw_611 rfl ⟨Nat.le_of_ble_eq_true rfl, Nat.le_of_ble_eq_true rfl⟩ ⟨rfl, rfl⟩ hl.1 rfl (Nat.le_of_ble_eq_true rfl) dX11_deal_180 ⟨Nat.le_of_ble_eq_true rfl, Nat.le_of_ble_eq_true rfl⟩ (fun v186 f187 H locs q188 hW => ?_)
                      obtain ⟨⟨x190, rfl, p191⟩, g189⟩ := q188
                      clear p191
                      have hF := FM.tr hF g189 rfl
                      exact e_I E hW rfl ⟨⟨_, rfl, trivial⟩, hF⟩ dX11_deal_183
                    · refine lv_aload_n hx hb dX11_deal_138 rfl (lv_at hl 2 rfl) ?_
                      refine lv_bipush (v := (-5)) hx hb dX11_deal_139 (by decide) ?_
                      refine t_callV (As := [.int (-5)]) (rest := []) E hW (c_X11_refuse l G cI cJ cZ cD cR cT kp L f146 hW.2.2.2 _ h0 (-5) rh0 (by decide)) rh0 (by decide) rfl wk_X11_refuse tw_603 rfl ⟨Nat.le_of_ble_eq_true rfl, Nat.le_of_ble_eq_true rfl⟩ ⟨rfl, rfl⟩ hl.1 rfl (Nat.le_of_ble_eq_true rfl) dX11_deal_141 ⟨Nat.le_of_ble_eq_true rfl, Nat.le_of_ble_eq_true rfl⟩ (fun v192 f193 H locs q194 hW => ?_)
                      obtain ⟨⟨x196, rfl, p197⟩, g195⟩ := q194
                      have p197 : (-6 : Int) ≤ x196.toInt ∧ x196.toInt ≤ -1 := p197
                      have hF := FM.tr hF g195 rfl
                      exact e_I E hW rfl ⟨⟨_, rfl, trivial⟩, hF⟩ dX11_deal_144
                  · refine lv_aload_n hx hb dX11_deal_120 rfl (lv_at hl 2 rfl) ?_
                    refine lv_bipush (v := (-3)) hx hb dX11_deal_121 (by decide) ?_
                    refine t_callV (As := [.int (-3)]) (rest := []) E hW (c_X11_refuse l G cI cJ cZ cD cR cT kp L f146 hW.2.2.2 _ h0 (-3) rh0 (by decide)) rh0 (by decide) rfl wk_X11_refuse tw_603 rfl ⟨Nat.le_of_ble_eq_true rfl, Nat.le_of_ble_eq_true rfl⟩ ⟨rfl, rfl⟩ hl.1 rfl (Nat.le_of_ble_eq_true rfl) dX11_deal_123 ⟨Nat.le_of_ble_eq_true rfl, Nat.le_of_ble_eq_true rfl⟩ (fun v198 f199 H locs q200 hW => ?_)
                    obtain ⟨⟨x202, rfl, p203⟩, g201⟩ := q200
                    have p203 : (-6 : Int) ≤ x202.toInt ∧ x202.toInt ≤ -1 := p203
                    have hF := FM.tr hF g201 rfl
                    exact e_I E hW rfl ⟨⟨_, rfl, trivial⟩, hF⟩ dX11_deal_126
      · clear p40
        refine lv_aload_n hx hb dX11_deal_53 rfl (lv_at hl 2 rfl) ?_
        refine lv_bipush (v := (-2)) hx hb dX11_deal_54 (by decide) ?_
        refine t_callV (As := [.int (-2)]) (rest := []) E hW (c_X11_refuse l G cI cJ cZ cD cR cT kp L f36 hW.2.2.2 _ h0 (-2) rh0 (by decide)) rh0 (by decide) rfl wk_X11_refuse tw_603 rfl ⟨Nat.le_of_ble_eq_true rfl, Nat.le_of_ble_eq_true rfl⟩ ⟨rfl, rfl⟩ hl.1 rfl (Nat.le_of_ble_eq_true rfl) dX11_deal_56 ⟨Nat.le_of_ble_eq_true rfl, Nat.le_of_ble_eq_true rfl⟩ (fun v204 f205 H locs q206 hW => ?_)
        obtain ⟨⟨x208, rfl, p209⟩, g207⟩ := q206
        have p209 : (-6 : Int) ≤ x208.toInt ∧ x208.toInt ≤ -1 := p209
        have hF := FM.tr hF g207 rfl
        exact e_I E hW rfl ⟨⟨_, rfl, trivial⟩, hF⟩ dX11_deal_59
  · have q210 : (u3.toInt < 1 ∨ 10000 < u3.toInt) := by omega
    clear p18
    refine lv_aload_n hx hb dX11_deal_29 rfl (lv_at hl 2 rfl) ?_
    refine lv_iconst (v := (-1)) hx hb dX11_deal_30 (by decide) ?_
    refine t_callV (As := [.int (-1)]) (rest := []) E hW (c_X11_refuse l G cI cJ cZ cD cR cT kp L f14 hW.2.2.2 _ h0 (-1) rh0 (by decide)) rh0 (by decide) rfl wk_X11_refuse tw_603 rfl ⟨Nat.le_of_ble_eq_true rfl, Nat.le_of_ble_eq_true rfl⟩ ⟨rfl, rfl⟩ hl.1 rfl (Nat.le_of_ble_eq_true rfl) dX11_deal_31 ⟨Nat.le_of_ble_eq_true rfl, Nat.le_of_ble_eq_true rfl⟩ (fun v211 f212 H locs q213 hW => ?_)
    obtain ⟨⟨x215, rfl, p216⟩, g214⟩ := q213
    have p216 : (-6 : Int) ≤ x215.toInt ∧ x215.toInt ≤ -1 := p216
    have hF := FM.tr hF g214 rfl
    exact e_I E hW rfl ⟨⟨_, rfl, trivial⟩, hF⟩ dX11_deal_34
def ms_X11_end : List (Nat × Nat) := [(8, 0)]
def po_X11_end (kp : Nat → Nat) (L : List Nat) (f0 : Nat → va_E) (h0 : Nat) (u1 : Int32) : Option Value → (Nat → va_E) → Prop := fun v f => (∃ r : Int32, v = some (.int r) ∧ ((-1 : Int) ≤ r.toInt ∧ r.toInt ≤ 400)) ∧ FM kp L ms_X11_end f0 f
set_option maxHeartbeats 4000000 in
set_option maxRecDepth 100000 in
theorem c_X11_end (l : Launch) (G : va_G) (cI cJ cZ cD cR cT : ClassId) (kp : Nat → Nat) (L : List Nat) (f0 : Nat → va_E) (hTH : TH cI cJ cZ cD cR cT kp L f0) (sz : Nat) (h0 : Nat) (u1 : Int32) (rh0 : RK kp L h0 11) : Met l yX11_end (Cond.code yX11_end cX11_end 2 (some .int) :: wTab) ({ frames := 2, cells := 0, slots := 0, locals := 62 }) (va_Pc [.ref h0, .int u1] (PreW G (tys6 cI cJ cZ cD cR cT) (va_pl L f0) sz)) (QT (po_X11_end kp L f0 h0 u1) G cI cJ cZ cD cR cT (va_A (va_pl L f0) sz) kp L) 0 0 (va_A (va_pl L f0) sz) := by
  refine metT (by decide) (Nat.le_of_ble_eq_true rfl) hTH ?_
  intro p e s m below meth c A ls E hW hl
  obtain ⟨hx, hb, -, hml, hown, hts, -, -, -⟩ := id E
  have hF : FM kp L ms_X11_end f0 f0 := FM.rf
  have hl : lv_has ls 2 [(0, .ref h0), (1, .int u1)] := hl
  refine lv_iload_n hx hb dX11_end_0 rfl (lv_at hl 1 rfl) ?_
  refine lv_iconst (v := 0) hx hb dX11_end_1 (by decide) ?_
  refine lv_aload_n hx hb dX11_end_2 rfl (lv_at hl 0 rfl) ?_
  refine fg_RX11_30 E hW rh0 dX11_end_3 (fun a1 m2 r3 => ?_)
  refine fg_RX11_209 E hW r3 dX11_end_6 (fun y4 m5 b6 => ?_)
  refine t_callS (As := [.int u1, .int 0, .int y4]) (rest := []) E hW (c_X11_within l G cI cJ cZ cD cR cT kp L f0 hW.2.2.2 _ u1 0 y4 (by decide)) wk_X11_within tw_599 rfl ⟨Nat.le_of_ble_eq_true rfl, Nat.le_of_ble_eq_true rfl⟩ ⟨rfl, rfl⟩ hl.1 rfl (Nat.le_of_ble_eq_true rfl) dX11_end_9 ⟨Nat.le_of_ble_eq_true rfl, Nat.le_of_ble_eq_true rfl⟩ (fun v7 f8 H locs q9 hW => ?_)
  obtain ⟨⟨x11, rfl, p12⟩, g10⟩ := q9
  have p12 : (x11.toInt = 1 ∧ 0 ≤ u1.toInt ∧ u1.toInt ≤ y4.toInt) ∨ (x11.toInt = 0 ∧ (u1.toInt < 0 ∨ y4.toInt < u1.toInt)) := p12
  have hF := FM.tr hF g10 rfl
  refine q_if_ne (tgt := 17) hx hb dX11_end_12 (by decide) rfl (fun c13 => ?_) (fun c13 => ?_)
  · have q14 : 0 ≤ u1.toInt ∧ u1.toInt ≤ y4.toInt := by omega
    clear p12
    refine lv_aload_n hx hb dX11_end_17 rfl (lv_at hl 0 rfl) ?_
    refine fg_RX11_30 E hW rh0 dX11_end_18 (fun a15 m16 r17 => ?_)
    obtain rfl : a1 = a15 := (((fm_R g10 rh0 rfl).trans m2)).symm.trans m16
    refine lv_iload_n hx hb dX11_end_21 rfl (lv_at hl 1 rfl) ?_
    refine fp_RX11_209 E hW r3 (by omega) dX11_end_22 (fun f18 H locs e19 n20 g21 hW => ?_)
    have hF := FM.tr hF g21 rfl
    refine lv_iload_n hx hb dX11_end_25 rfl (lv_at hl 1 rfl) ?_
    exact e_I E hW rfl ⟨⟨_, rfl, (by first | omega | trivial)⟩, hF⟩ dX11_end_26
  · have q22 : (u1.toInt < 0 ∨ y4.toInt < u1.toInt) := by omega
    clear p12
    refine lv_iconst (v := (-1)) hx hb dX11_end_15 (by decide) ?_
    exact e_I E hW rfl ⟨⟨_, rfl, (by have hk : ((-1) : Int32).toInt = -1 := rfl; first | decide | omega)⟩, hF⟩ dX11_end_16
def ms_X11_estate : List (Nat × Nat) := [(1, 8), (11, 15), (169, 0), (170, 0), (171, 0)]
def po_X11_estate (kp : Nat → Nat) (L : List Nat) (f0 : Nat → va_E) (h0 : Nat) (u1 : Int32) (u2 : Int32) : Option Value → (Nat → va_E) → Prop := fun v f => (∃ r : Int32, v = some (.int r) ∧ (True)) ∧ FM kp L ms_X11_estate f0 f
set_option maxHeartbeats 4000000 in
set_option maxRecDepth 100000 in
theorem c_X11_estate (l : Launch) (G : va_G) (cI cJ cZ cD cR cT : ClassId) (kp : Nat → Nat) (L : List Nat) (f0 : Nat → va_E) (hTH : TH cI cJ cZ cD cR cT kp L f0) (sz : Nat) (h0 : Nat) (u1 : Int32) (u2 : Int32) (rh0 : RK kp L h0 11) : Met l yX11_estate (Cond.code yX11_estate cX11_estate 3 (some .int) :: wTab) ({ frames := 2, cells := 0, slots := 0, locals := 63 }) (va_Pc [.ref h0, .int u1, .int u2] (PreW G (tys6 cI cJ cZ cD cR cT) (va_pl L f0) sz)) (QT (po_X11_estate kp L f0 h0 u1 u2) G cI cJ cZ cD cR cT (va_A (va_pl L f0) sz) kp L) 0 0 (va_A (va_pl L f0) sz) := by
  refine metT (by decide) (Nat.le_of_ble_eq_true rfl) hTH ?_
  intro p e s m below meth c A ls E hW hl
  obtain ⟨hx, hb, -, hml, hown, hts, -, -, -⟩ := id E
  have hF : FM kp L ms_X11_estate f0 f0 := FM.rf
  have hl : lv_has ls 3 [(0, .ref h0), (1, .int u1), (2, .int u2)] := hl
  refine lv_iload_n hx hb dX11_estate_0 rfl (lv_at hl 1 rfl) ?_
  refine lv_iconst (v := 0) hx hb dX11_estate_1 (by decide) ?_
  refine lv_ldc (v := 10000000) hx hb hown (hts _ tw_643) dX11_estate_2 ?_
  refine t_callS (As := [.int u1, .int 0, .int 10000000]) (rest := []) E hW (c_X11_within l G cI cJ cZ cD cR cT kp L f0 hW.2.2.2 _ u1 0 10000000 (by decide)) wk_X11_within tw_599 rfl ⟨Nat.le_of_ble_eq_true rfl, Nat.le_of_ble_eq_true rfl⟩ ⟨rfl, rfl⟩ hl.1 rfl (Nat.le_of_ble_eq_true rfl) dX11_estate_4 ⟨Nat.le_of_ble_eq_true rfl, Nat.le_of_ble_eq_true rfl⟩ (fun v1 f2 H locs q3 hW => ?_)
  obtain ⟨⟨x5, rfl, p6⟩, g4⟩ := q3
  have p6 : (x5.toInt = 1 ∧ 0 ≤ u1.toInt ∧ u1.toInt ≤ 10000000) ∨ (x5.toInt = 0 ∧ (u1.toInt < 0 ∨ 10000000 < u1.toInt)) := p6
  have hF := FM.tr hF g4 rfl
  refine q_if_eq (tgt := 20) hx hb dX11_estate_7 (by decide) rfl (fun c7 => ?_) (fun c7 => ?_)
  · have q8 : (u1.toInt < 0 ∨ 10000000 < u1.toInt) := by omega
    clear p6
    refine lv_aload_n hx hb dX11_estate_20 rfl (lv_at hl 0 rfl) ?_
    refine lv_iconst (v := (-1)) hx hb dX11_estate_21 (by decide) ?_
    refine t_callV (As := [.int (-1)]) (rest := []) E hW (c_X11_refuse l G cI cJ cZ cD cR cT kp L f2 hW.2.2.2 _ h0 (-1) rh0 (by decide)) rh0 (by decide) rfl wk_X11_refuse tw_603 rfl ⟨Nat.le_of_ble_eq_true rfl, Nat.le_of_ble_eq_true rfl⟩ ⟨rfl, rfl⟩ hl.1 rfl (Nat.le_of_ble_eq_true rfl) dX11_estate_22 ⟨Nat.le_of_ble_eq_true rfl, Nat.le_of_ble_eq_true rfl⟩ (fun v9 f10 H locs q11 hW => ?_)
    obtain ⟨⟨x13, rfl, p14⟩, g12⟩ := q11
    have p14 : (-6 : Int) ≤ x13.toInt ∧ x13.toInt ≤ -1 := p14
    have hF := FM.tr hF g12 rfl
    exact e_I E hW rfl ⟨⟨_, rfl, trivial⟩, hF⟩ dX11_estate_25
  · have q15 : 0 ≤ u1.toInt ∧ u1.toInt ≤ 10000000 := by omega
    clear p6
    refine lv_iload_n hx hb dX11_estate_10 rfl (lv_at hl 2 rfl) ?_
    refine lv_iconst (v := 0) hx hb dX11_estate_11 (by decide) ?_
    refine lv_ldc (v := 1000000) hx hb hown (hts _ tw_602) dX11_estate_12 ?_
    refine t_callS (As := [.int u2, .int 0, .int 1000000]) (rest := []) E hW (c_X11_within l G cI cJ cZ cD cR cT kp L f2 hW.2.2.2 _ u2 0 1000000 (by decide)) wk_X11_within tw_599 rfl ⟨Nat.le_of_ble_eq_true rfl, Nat.le_of_ble_eq_true rfl⟩ ⟨rfl, rfl⟩ hl.1 rfl (Nat.le_of_ble_eq_true rfl) dX11_estate_14 ⟨Nat.le_of_ble_eq_true rfl, Nat.le_of_ble_eq_true rfl⟩ (fun v16 f17 H locs q18 hW => ?_)
    obtain ⟨⟨x20, rfl, p21⟩, g19⟩ := q18
    have p21 : (x20.toInt = 1 ∧ 0 ≤ u2.toInt ∧ u2.toInt ≤ 1000000) ∨ (x20.toInt = 0 ∧ (u2.toInt < 0 ∨ 1000000 < u2.toInt)) := p21
    have hF := FM.tr hF g19 rfl
    refine q_if_ne (tgt := 26) hx hb dX11_estate_17 (by decide) rfl (fun c22 => ?_) (fun c22 => ?_)
    · have q23 : 0 ≤ u2.toInt ∧ u2.toInt ≤ 1000000 := by omega
      clear p21
      refine lv_aload_n hx hb dX11_estate_26 rfl (lv_at hl 0 rfl) ?_
      refine fg_RX11_12 E hW rh0 dX11_estate_27 (fun a24 m25 r26 => ?_)
      refine fg_RX11_114 E hW r26 dX11_estate_30 (fun a27 m28 r29 => ?_)
      refine fg_RX11_118 E hW r29 dX11_estate_33 (fun y30 m31 b32 => ?_)
      refine lv_bipush (v := 8) hx hb dX11_estate_36 (by decide) ?_
      refine q_icmp_lt (Y := 8) (tgt := 48) hx hb dX11_estate_38 (by decide) rfl rfl (fun c33 => ?_) (fun c33 => ?_)
      · refine lv_aload_n hx hb dX11_estate_48 rfl (lv_at hl 0 rfl) ?_
        refine lv_aload_n hx hb dX11_estate_49 rfl (lv_at hl 0 rfl) ?_
        refine fg_RX11_12 E hW rh0 dX11_estate_50 (fun a34 m35 r36 => ?_)
        obtain rfl : a24 = a34 := (m25).symm.trans m35
        refine fg_RX11_114 E hW r26 dX11_estate_53 (fun a37 m38 r39 => ?_)
        obtain rfl : a27 = a37 := (m28).symm.trans m38
        refine lv_iload_n hx hb dX11_estate_56 rfl (lv_at hl 1 rfl) ?_
        refine lv_iload_n hx hb dX11_estate_57 rfl (lv_at hl 2 rfl) ?_
        refine t_callV (As := [.int u1, .int u2]) (rest := [.ref h0]) E hW (c_X1_addEstate l G cI cJ cZ cD cR cT kp L f17 hW.2.2.2 _ a27 u1 u2 r29 (by omega) (by omega)) r29 (by decide) rfl wk_X1_addEstate tw_650 rfl ⟨Nat.le_of_ble_eq_true rfl, Nat.le_of_ble_eq_true rfl⟩ ⟨rfl, rfl⟩ hl.1 rfl (Nat.le_of_ble_eq_true rfl) dX11_estate_58 ⟨Nat.le_of_ble_eq_true rfl, Nat.le_of_ble_eq_true rfl⟩ (fun v40 f41 H locs q42 hW => ?_)
        obtain ⟨⟨x44, rfl, p45⟩, g43⟩ := q42
        have hF := FM.tr hF g43 rfl
        refine t_callV (As := [.int x44]) (rest := []) E hW (c_X11_accept l G cI cJ cZ cD cR cT kp L f41 hW.2.2.2 _ h0 x44 rh0) rh0 (by decide) rfl wk_X11_accept tw_611 rfl ⟨Nat.le_of_ble_eq_true rfl, Nat.le_of_ble_eq_true rfl⟩ ⟨rfl, rfl⟩ hl.1 rfl (Nat.le_of_ble_eq_true rfl) dX11_estate_61 ⟨Nat.le_of_ble_eq_true rfl, Nat.le_of_ble_eq_true rfl⟩ (fun v46 f47 H locs q48 hW => ?_)
        obtain ⟨⟨x50, rfl, p51⟩, g49⟩ := q48
        clear p51
        have hF := FM.tr hF g49 rfl
        exact e_I E hW rfl ⟨⟨_, rfl, trivial⟩, hF⟩ dX11_estate_64
      · refine lv_aload_n hx hb dX11_estate_41 rfl (lv_at hl 0 rfl) ?_
        refine lv_bipush (v := (-5)) hx hb dX11_estate_42 (by decide) ?_
        refine t_callV (As := [.int (-5)]) (rest := []) E hW (c_X11_refuse l G cI cJ cZ cD cR cT kp L f17 hW.2.2.2 _ h0 (-5) rh0 (by decide)) rh0 (by decide) rfl wk_X11_refuse tw_603 rfl ⟨Nat.le_of_ble_eq_true rfl, Nat.le_of_ble_eq_true rfl⟩ ⟨rfl, rfl⟩ hl.1 rfl (Nat.le_of_ble_eq_true rfl) dX11_estate_44 ⟨Nat.le_of_ble_eq_true rfl, Nat.le_of_ble_eq_true rfl⟩ (fun v52 f53 H locs q54 hW => ?_)
        obtain ⟨⟨x56, rfl, p57⟩, g55⟩ := q54
        have p57 : (-6 : Int) ≤ x56.toInt ∧ x56.toInt ≤ -1 := p57
        have hF := FM.tr hF g55 rfl
        exact e_I E hW rfl ⟨⟨_, rfl, trivial⟩, hF⟩ dX11_estate_47
    · have q58 : (u2.toInt < 0 ∨ 1000000 < u2.toInt) := by omega
      clear p21
      refine lv_aload_n hx hb dX11_estate_20 rfl (lv_at hl 0 rfl) ?_
      refine lv_iconst (v := (-1)) hx hb dX11_estate_21 (by decide) ?_
      refine t_callV (As := [.int (-1)]) (rest := []) E hW (c_X11_refuse l G cI cJ cZ cD cR cT kp L f17 hW.2.2.2 _ h0 (-1) rh0 (by decide)) rh0 (by decide) rfl wk_X11_refuse tw_603 rfl ⟨Nat.le_of_ble_eq_true rfl, Nat.le_of_ble_eq_true rfl⟩ ⟨rfl, rfl⟩ hl.1 rfl (Nat.le_of_ble_eq_true rfl) dX11_estate_22 ⟨Nat.le_of_ble_eq_true rfl, Nat.le_of_ble_eq_true rfl⟩ (fun v59 f60 H locs q61 hW => ?_)
      obtain ⟨⟨x63, rfl, p64⟩, g62⟩ := q61
      have p64 : (-6 : Int) ≤ x63.toInt ∧ x63.toInt ≤ -1 := p64
      have hF := FM.tr hF g62 rfl
      exact e_I E hW rfl ⟨⟨_, rfl, trivial⟩, hF⟩ dX11_estate_25
def ms_X11_fault : List (Nat × Nat) := []
def po_X11_fault (kp : Nat → Nat) (L : List Nat) (f0 : Nat → va_E) (h0 : Nat) : Option Value → (Nat → va_E) → Prop := fun v f => (∃ r : Int32, v = some (.int r) ∧ (True)) ∧ FM kp L ms_X11_fault f0 f
set_option maxHeartbeats 4000000 in
set_option maxRecDepth 100000 in
theorem c_X11_fault (l : Launch) (G : va_G) (cI cJ cZ cD cR cT : ClassId) (kp : Nat → Nat) (L : List Nat) (f0 : Nat → va_E) (hTH : TH cI cJ cZ cD cR cT kp L f0) (sz : Nat) (h0 : Nat) (rh0 : RK kp L h0 11) : Met l yX11_fault (Cond.code yX11_fault cX11_fault 1 (some .int) :: wTab) ({ frames := 1, cells := 0, slots := 0, locals := 40 }) (va_Pc [.ref h0] (PreW G (tys6 cI cJ cZ cD cR cT) (va_pl L f0) sz)) (QT (po_X11_fault kp L f0 h0) G cI cJ cZ cD cR cT (va_A (va_pl L f0) sz) kp L) 0 0 (va_A (va_pl L f0) sz) := by
  refine metT (by decide) (Nat.le_of_ble_eq_true rfl) hTH ?_
  intro p e s m below meth c A ls E hW hl
  obtain ⟨hx, hb, -, hml, hown, hts, -, -, -⟩ := id E
  have hF : FM kp L ms_X11_fault f0 f0 := FM.rf
  have hl : lv_has ls 1 [(0, .ref h0)] := hl
  refine lv_aload_n hx hb dX11_fault_0 rfl (lv_at hl 0 rfl) ?_
  refine fg_RX11_37 E hW rh0 dX11_fault_1 (fun a1 m2 r3 => ?_)
  refine fg_RX11_233 E hW r3 dX11_fault_4 (fun y4 m5 => ?_)
  exact e_I E hW rfl ⟨⟨_, rfl, trivial⟩, hF⟩ dX11_fault_7
def ms_X8_append : List (Nat × Nat) := [(8, 0), (581, 0)]
def po_X8_append (kp : Nat → Nat) (L : List Nat) (f0 : Nat → va_E) (h0 : Nat) (u1 : Int32) : Option Value → (Nat → va_E) → Prop := fun v f => v = none ∧ FM kp L ms_X8_append f0 f
set_option maxHeartbeats 4000000 in
set_option maxRecDepth 100000 in
theorem c_X8_append (l : Launch) (G : va_G) (cI cJ cZ cD cR cT : ClassId) (kp : Nat → Nat) (L : List Nat) (f0 : Nat → va_E) (hTH : TH cI cJ cZ cD cR cT kp L f0) (sz : Nat) (h0 : Nat) (u1 : Int32) (rh0 : RK kp L h0 8) : Met l yX8_append (Cond.code yX8_append cX8_append 3 none :: wTab) ({ frames := 1, cells := 0, slots := 0, locals := 40 }) (va_Pc [.ref h0, .int u1] (PreW G (tys6 cI cJ cZ cD cR cT) (va_pl L f0) sz)) (QT (po_X8_append kp L f0 h0 u1) G cI cJ cZ cD cR cT (va_A (va_pl L f0) sz) kp L) 0 0 (va_A (va_pl L f0) sz) := by
  refine metT (by decide) (Nat.le_of_ble_eq_true rfl) hTH ?_
  intro p e s m below meth c A ls E hW hl
  obtain ⟨hx, hb, -, hml, hown, hts, -, -, -⟩ := id E
  have hF : FM kp L ms_X8_append f0 f0 := FM.rf
  have hl : lv_has ls 3 [(0, .ref h0), (1, .int u1)] := hl
  refine lv_bipush (v := 24) hx hb dX8_append_0 (by decide) ?_
  refine lv_istore_n (lv' := [(2, .int 24), (0, .ref h0), (1, .int u1)]) hx hb dX8_append_2 rfl hl (by decide) rfl (fun ls hl => ?_)
  have L164 : ∀ (n : Nat), ∀ (f161 : Nat → va_E) (y162 : Int32) (b163 : (-8 : Int) ≤ y162.toInt ∧ y162.toInt ≤ 24) (hm : y162.toInt - (-9 : Int) ≤ n) (H : Heap) (locs : List Loc) (ls : Array Slot), WS G cI cJ cZ cD cR cT A kp L f161 s H locs → FM kp L ms_X8_append f0 f161 → lv_has ls 3 [(2, .int y162), (0, .ref h0), (1, .int u1)] → W p l e ({ frames := 1, cells := 0, slots := 0, locals := 40 }) s m ([.ref h0, .int u1] : List Value).toArray below meth c H locs 0 0 (MQ below (QT (po_X8_append kp L f0 h0 u1) G cI cJ cZ cD cR cT A kp L) ([.ref h0, .int u1] : List Value).toArray s 0 0 A) (F0 m 3 ls []) := by
    intro n
    induction n with
    | zero =>
      intro f161 y162 b163 hm H locs ls hW hF hl
      have hz := i32_b y162
      exfalso; omega
    | succ n ih =>
      intro f161 y162 b163 hm H locs ls hW hF hl
      have ih3 := ih
      refine lv_iload_n hx hb dX8_append_3 rfl (lv_at hl 0 rfl) ?_
      have J193 : ∀ (H : Heap) (locs : List Loc) (ls : Array Slot), WS G cI cJ cZ cD cR cT A kp L f161 s H locs → FM kp L ms_X8_append f0 f161 → lv_has ls 3 [(2, .int y162), (0, .ref h0), (1, .int u1)] → W p l e ({ frames := 1, cells := 0, slots := 0, locals := 40 }) s m ([.ref h0, .int u1] : List Value).toArray below meth c H locs 0 0 (MQ below (QT (po_X8_append kp L f0 h0 u1) G cI cJ cZ cD cR cT A kp L) ([.ref h0, .int u1] : List Value).toArray s 0 0 A) (F0 m 49 ls []) := by
        intro  H locs ls hW hF hl
        exact e_V E hW rfl ⟨rfl, hF⟩ dX8_append_49
      refine q_if_lt (tgt := 49) hx hb dX8_append_4 (by decide) rfl (fun c194 => ?_) (fun c194 => ?_)
      · exact J193   _ _ _ hW hF (lv_sub hl [0, 1, 2] rfl)
      · refine lv_aload_n hx hb dX8_append_7 rfl (lv_at hl 1 rfl) ?_
        refine fg_RX8_19 E hW rh0 dX8_append_8 (fun y195 m196 b197 => ?_)
        refine lv_sipush (v := 400) hx hb dX8_append_11 (by decide) ?_
        refine q_icmp_ge (Y := 400) (tgt := 49) hx hb dX8_append_14 (by decide) rfl rfl (fun c198 => ?_) (fun c198 => ?_)
        · exact J193   _ _ _ hW hF (lv_sub hl [0, 1, 2] rfl)
        · refine lv_aload_n hx hb dX8_append_17 rfl (lv_at hl 1 rfl) ?_
          refine fg_RX8_9 E hW rh0 dX8_append_18 (fun a199 m200 r201 => ?_)
          refine lv_aload_n hx hb dX8_append_21 rfl (lv_at hl 1 rfl) ?_
          refine fg_RX8_19 E hW rh0 dX8_append_22 (fun y202 m203 b204 => ?_)
          obtain rfl : y195 = y202 := (m196).symm.trans m203
          refine lv_iload_n hx hb dX8_append_25 rfl (lv_at hl 2 rfl) ?_
          refine lv_iload_n hx hb dX8_append_26 rfl (lv_at hl 0 rfl) ?_
          refine u_iushr hx hb dX8_append_27 (fun x205 => ?_)
          refine lv_sipush (v := 255) hx hb dX8_append_28 (by decide) ?_
          refine q_iand (M := 255) (k := 8) hx hb dX8_append_31 (by decide) (by decide) (by decide) (fun x206 h207 => ?_)
          refine gs_581 E hW r201 ⟨by omega, by omega⟩ dX8_append_32 (fun f208 H locs e209 n210 g211 hW => ?_)
          have hF := FM.tr hF g211 rfl
          refine lv_aload_n hx hb dX8_append_33 rfl (lv_at hl 1 rfl) ?_
          refine lv_dup hx hb dX8_append_34 rfl ?_
          refine fg_RX8_19 E hW rh0 dX8_append_35 (fun y212 m213 b214 => ?_)
          obtain rfl : y195 = y212 := (((fm_I g211 rh0 rfl).trans m203)).symm.trans m213
          refine lv_iconst (v := 1) hx hb dX8_append_38 (by decide) ?_
          refine q_iadd (Y := 1) hx hb dX8_append_39 rfl rfl (by omega) (fun x215 h216 => ?_)
          refine fp_RX8_19 E hW rh0 (by omega) dX8_append_40 (fun f217 H locs e218 n219 g220 hW => ?_)
          have hF := FM.tr hF g220 rfl
          refine q_iinc hx hb dX8_append_43 hl (k := 0) rfl rfl rfl (by omega) (by decide) (fun i221 ls h222 hl => ?_)
          have hl : lv_has ls 3 [(2, .int i221), (0, .ref h0), (1, .int u1)] := hl
          refine lv_goto (tgt := 3) hx hb dX8_append_46 (by decide) ?_
          exact ih3 f217 i221 (by omega) (by omega) _ _ _ hW hF (lv_sub hl [0, 1, 2] rfl)
  have hk223 : (24 : Int32).toInt = 24 := rfl
  exact L164 33 f0 24 (by decide) (by omega) _ _ _ hW hF (lv_sub hl [0, 1, 2] rfl)
def ms_X11_feed : List (Nat × Nat) := [(8, 0), (581, 0)]
def po_X11_feed (kp : Nat → Nat) (L : List Nat) (f0 : Nat → va_E) (h0 : Nat) (u1 : Int32) (u2 : Int32) (u3 : Int32) (u4 : Int32) (u5 : Int32) : Option Value → (Nat → va_E) → Prop := fun v f => (∃ r : Int32, v = some (.int r) ∧ ((-1 : Int) ≤ r.toInt ∧ r.toInt ≤ 400)) ∧ FM kp L ms_X11_feed f0 f
set_option maxHeartbeats 4000000 in
set_option maxRecDepth 100000 in
theorem c_X11_feed (l : Launch) (G : va_G) (cI cJ cZ cD cR cT : ClassId) (kp : Nat → Nat) (L : List Nat) (f0 : Nat → va_E) (hTH : TH cI cJ cZ cD cR cT kp L f0) (sz : Nat) (h0 : Nat) (u1 : Int32) (u2 : Int32) (u3 : Int32) (u4 : Int32) (u5 : Int32) (rh0 : RK kp L h0 11) : Met l yX11_feed (Cond.code yX11_feed cX11_feed 6 (some .int) :: wTab) ({ frames := 2, cells := 0, slots := 0, locals := 62 }) (va_Pc [.ref h0, .int u1, .int u2, .int u3, .int u4, .int u5] (PreW G (tys6 cI cJ cZ cD cR cT) (va_pl L f0) sz)) (QT (po_X11_feed kp L f0 h0 u1 u2 u3 u4 u5) G cI cJ cZ cD cR cT (va_A (va_pl L f0) sz) kp L) 0 0 (va_A (va_pl L f0) sz) := by
  refine metT (by decide) (Nat.le_of_ble_eq_true rfl) hTH ?_
  intro p e s m below meth c A ls E hW hl
  obtain ⟨hx, hb, -, hml, hown, hts, -, -, -⟩ := id E
  have hF : FM kp L ms_X11_feed f0 f0 := FM.rf
  have hl : lv_has ls 6 [(0, .ref h0), (1, .int u1), (2, .int u2), (3, .int u3), (4, .int u4), (5, .int u5)] := hl
  refine lv_aload_n hx hb dX11_feed_0 rfl (lv_at hl 0 rfl) ?_
  refine fg_RX11_30 E hW rh0 dX11_feed_1 (fun a1 m2 r3 => ?_)
  refine fg_RX11_209 E hW r3 dX11_feed_4 (fun y4 m5 b6 => ?_)
  refine lv_bipush (v := 20) hx hb dX11_feed_7 (by decide) ?_
  refine q_iadd (Y := 20) hx hb dX11_feed_9 rfl rfl (by omega) (fun x7 h8 => ?_)
  refine lv_sipush (v := 400) hx hb dX11_feed_10 (by decide) ?_
  refine q_icmp_le (Y := 400) (tgt := 18) hx hb dX11_feed_13 (by decide) rfl rfl (fun c9 => ?_) (fun c9 => ?_)
  · refine lv_aload_n hx hb dX11_feed_18 rfl (lv_at hl 0 rfl) ?_
    refine fg_RX11_30 E hW rh0 dX11_feed_19 (fun a10 m11 r12 => ?_)
    obtain rfl : a1 = a10 := (m2).symm.trans m11
    refine lv_iload_n hx hb dX11_feed_22 rfl (lv_at hl 1 rfl) ?_
    refine t_callV (As := [.int u1]) (rest := []) E hW (c_X8_append l G cI cJ cZ cD cR cT kp L f0 hW.2.2.2 _ a1 u1 r3) r3 (by decide) rfl wk_X8_append tw_851 rfl ⟨Nat.le_of_ble_eq_true rfl, Nat.le_of_ble_eq_true rfl⟩ ⟨rfl, rfl⟩ hl.1 rfl (Nat.le_of_ble_eq_true rfl) dX11_feed_23 ⟨Nat.le_of_ble_eq_true rfl, Nat.le_of_ble_eq_true rfl⟩ (fun v13 f14 H locs q15 hW => ?_)
    obtain ⟨rfl, g16⟩ := q15
    have hF := FM.tr hF g16 rfl
    refine lv_aload_n hx hb dX11_feed_26 rfl (lv_at hl 0 rfl) ?_
    refine fg_RX11_30 E hW rh0 dX11_feed_27 (fun a17 m18 r19 => ?_)
    obtain rfl : a1 = a17 := (((fm_R g16 rh0 rfl).trans m11)).symm.trans m18
    refine lv_iload_n hx hb dX11_feed_30 rfl (lv_at hl 2 rfl) ?_
    refine t_callV (As := [.int u2]) (rest := []) E hW (c_X8_append l G cI cJ cZ cD cR cT kp L f14 hW.2.2.2 _ a1 u2 r3) r3 (by decide) rfl wk_X8_append tw_851 rfl ⟨Nat.le_of_ble_eq_true rfl, Nat.le_of_ble_eq_true rfl⟩ ⟨rfl, rfl⟩ hl.1 rfl (Nat.le_of_ble_eq_true rfl) dX11_feed_31 ⟨Nat.le_of_ble_eq_true rfl, Nat.le_of_ble_eq_true rfl⟩ (fun v20 f21 H locs q22 hW => ?_)
    obtain ⟨rfl, g23⟩ := q22
    have hF := FM.tr hF g23 rfl
    refine lv_aload_n hx hb dX11_feed_34 rfl (lv_at hl 0 rfl) ?_
    refine fg_RX11_30 E hW rh0 dX11_feed_35 (fun a24 m25 r26 => ?_)
    obtain rfl : a1 = a24 := (((fm_R g23 rh0 rfl).trans m18)).symm.trans m25
    refine lv_iload_n hx hb dX11_feed_38 rfl (lv_at hl 3 rfl) ?_
    refine t_callV (As := [.int u3]) (rest := []) E hW (c_X8_append l G cI cJ cZ cD cR cT kp L f21 hW.2.2.2 _ a1 u3 r3) r3 (by decide) rfl wk_X8_append tw_851 rfl ⟨Nat.le_of_ble_eq_true rfl, Nat.le_of_ble_eq_true rfl⟩ ⟨rfl, rfl⟩ hl.1 rfl (Nat.le_of_ble_eq_true rfl) dX11_feed_39 ⟨Nat.le_of_ble_eq_true rfl, Nat.le_of_ble_eq_true rfl⟩ (fun v27 f28 H locs q29 hW => ?_)
    obtain ⟨rfl, g30⟩ := q29
    have hF := FM.tr hF g30 rfl
    refine lv_aload_n hx hb dX11_feed_42 rfl (lv_at hl 0 rfl) ?_
    refine fg_RX11_30 E hW rh0 dX11_feed_43 (fun a31 m32 r33 => ?_)
    obtain rfl : a1 = a31 := (((fm_R g30 rh0 rfl).trans m25)).symm.trans m32
    refine lv_iload hx hb dX11_feed_46 (lv_at hl 4 rfl) ?_
    refine t_callV (As := [.int u4]) (rest := []) E hW (c_X8_append l G cI cJ cZ cD cR cT kp L f28 hW.2.2.2 _ a1 u4 r3) r3 (by decide) rfl wk_X8_append tw_851 rfl ⟨Nat.le_of_ble_eq_true rfl, Nat.le_of_ble_eq_true rfl⟩ ⟨rfl, rfl⟩ hl.1 rfl (Nat.le_of_ble_eq_true rfl) dX11_feed_48 ⟨Nat.le_of_ble_eq_true rfl, Nat.le_of_ble_eq_true rfl⟩ (fun v34 f35 H locs q36 hW => ?_)
    obtain ⟨rfl, g37⟩ := q36
    have hF := FM.tr hF g37 rfl
    refine lv_aload_n hx hb dX11_feed_51 rfl (lv_at hl 0 rfl) ?_
    refine fg_RX11_30 E hW rh0 dX11_feed_52 (fun a38 m39 r40 => ?_)
    obtain rfl : a1 = a38 := (((fm_R g37 rh0 rfl).trans m32)).symm.trans m39
    refine lv_iload hx hb dX11_feed_55 (lv_at hl 5 rfl) ?_
    refine t_callV (As := [.int u5]) (rest := []) E hW (c_X8_append l G cI cJ cZ cD cR cT kp L f35 hW.2.2.2 _ a1 u5 r3) r3 (by decide) rfl wk_X8_append tw_851 rfl ⟨Nat.le_of_ble_eq_true rfl, Nat.le_of_ble_eq_true rfl⟩ ⟨rfl, rfl⟩ hl.1 rfl (Nat.le_of_ble_eq_true rfl) dX11_feed_57 ⟨Nat.le_of_ble_eq_true rfl, Nat.le_of_ble_eq_true rfl⟩ (fun v41 f42 H locs q43 hW => ?_)
    obtain ⟨rfl, g44⟩ := q43
    have hF := FM.tr hF g44 rfl
    refine lv_aload_n hx hb dX11_feed_60 rfl (lv_at hl 0 rfl) ?_
    refine fg_RX11_30 E hW rh0 dX11_feed_61 (fun a45 m46 r47 => ?_)
    obtain rfl : a1 = a45 := (((fm_R g44 rh0 rfl).trans m39)).symm.trans m46
    refine fg_RX11_209 E hW r3 dX11_feed_64 (fun y48 m49 b50 => ?_)
    exact e_I E hW rfl ⟨⟨_, rfl, (by first | omega | trivial)⟩, hF⟩ dX11_feed_67
  · refine lv_iconst (v := (-1)) hx hb dX11_feed_16 (by decide) ?_
    exact e_I E hW rfl ⟨⟨_, rfl, (by have hk : ((-1) : Int32).toInt = -1 := rfl; first | decide | omega)⟩, hF⟩ dX11_feed_17
def ms_X11_field : List (Nat × Nat) := [(1, 0), (11, 15), (161, 0), (162, 0), (163, 0), (164, 0), (165, 0), (166, 0), (167, 0), (347, 0)]
def po_X11_field (kp : Nat → Nat) (L : List Nat) (f0 : Nat → va_E) (h0 : Nat) (u1 : Int32) (u2 : Int32) (u3 : Int32) (u4 : Int32) : Option Value → (Nat → va_E) → Prop := fun v f => (∃ r : Int32, v = some (.int r) ∧ (True)) ∧ FM kp L ms_X11_field f0 f
set_option maxHeartbeats 4000000 in
set_option maxRecDepth 100000 in
theorem c_X11_field (l : Launch) (G : va_G) (cI cJ cZ cD cR cT : ClassId) (kp : Nat → Nat) (L : List Nat) (f0 : Nat → va_E) (hTH : TH cI cJ cZ cD cR cT kp L f0) (sz : Nat) (h0 : Nat) (u1 : Int32) (u2 : Int32) (u3 : Int32) (u4 : Int32) (rh0 : RK kp L h0 11) : Met l yX11_field (Cond.code yX11_field cX11_field 7 (some .int) :: wTab) ({ frames := 2, cells := 0, slots := 0, locals := 64 }) (va_Pc [.ref h0, .int u1, .int u2, .int u3, .int u4] (PreW G (tys6 cI cJ cZ cD cR cT) (va_pl L f0) sz)) (QT (po_X11_field kp L f0 h0 u1 u2 u3 u4) G cI cJ cZ cD cR cT (va_A (va_pl L f0) sz) kp L) 0 0 (va_A (va_pl L f0) sz) := by
  refine metT (by decide) (Nat.le_of_ble_eq_true rfl) hTH ?_
  intro p e s m below meth c A ls E hW hl
  obtain ⟨hx, hb, -, hml, hown, hts, -, -, -⟩ := id E
  have hF : FM kp L ms_X11_field f0 f0 := FM.rf
  have hl : lv_has ls 7 [(0, .ref h0), (1, .int u1), (2, .int u2), (3, .int u3), (4, .int u4)] := hl
  refine lv_aload_n hx hb dX11_field_0 rfl (lv_at hl 0 rfl) ?_
  refine fg_RX11_12 E hW rh0 dX11_field_1 (fun a1 m2 r3 => ?_)
  refine fg_RX11_63 E hW r3 dX11_field_4 (fun a4 m5 r6 => ?_)
  refine lv_astore (lv' := [(5, .ref a4), (0, .ref h0), (1, .int u1), (2, .int u2), (3, .int u3), (4, .int u4)]) hx hb dX11_field_7 hl (by decide) rfl (fun ls hl => ?_)
  refine lv_iload_n hx hb dX11_field_9 rfl (lv_at hl 3 rfl) ?_
  refine lv_iconst (v := 1) hx hb dX11_field_10 (by decide) ?_
  refine lv_sipush (v := 1000) hx hb dX11_field_11 (by decide) ?_
  refine t_callS (As := [.int u2, .int 1, .int 1000]) (rest := []) E hW (c_X11_within l G cI cJ cZ cD cR cT kp L f0 hW.2.2.2 _ u2 1 1000 (by decide)) wk_X11_within tw_599 rfl ⟨Nat.le_of_ble_eq_true rfl, Nat.le_of_ble_eq_true rfl⟩ ⟨rfl, rfl⟩ hl.1 rfl (Nat.le_of_ble_eq_true rfl) dX11_field_14 ⟨Nat.le_of_ble_eq_true rfl, Nat.le_of_ble_eq_true rfl⟩ (fun v7 f8 H locs q9 hW => ?_)
  obtain ⟨⟨x11, rfl, p12⟩, g10⟩ := q9
  have p12 : (x11.toInt = 1 ∧ 1 ≤ u2.toInt ∧ u2.toInt ≤ 1000) ∨ (x11.toInt = 0 ∧ (u2.toInt < 1 ∨ 1000 < u2.toInt)) := p12
  have hF := FM.tr hF g10 rfl
  refine q_if_eq (tgt := 30) hx hb dX11_field_17 (by decide) rfl (fun c13 => ?_) (fun c13 => ?_)
  · have q14 : (u2.toInt < 1 ∨ 1000 < u2.toInt) := by omega
    clear p12
    refine lv_aload_n hx hb dX11_field_30 rfl (lv_at hl 1 rfl) ?_
    refine lv_iconst (v := (-1)) hx hb dX11_field_31 (by decide) ?_
    refine t_callV (As := [.int (-1)]) (rest := []) E hW (c_X11_refuse l G cI cJ cZ cD cR cT kp L f8 hW.2.2.2 _ h0 (-1) rh0 (by decide)) rh0 (by decide) rfl wk_X11_refuse tw_603 rfl ⟨Nat.le_of_ble_eq_true rfl, Nat.le_of_ble_eq_true rfl⟩ ⟨rfl, rfl⟩ hl.1 rfl (Nat.le_of_ble_eq_true rfl) dX11_field_32 ⟨Nat.le_of_ble_eq_true rfl, Nat.le_of_ble_eq_true rfl⟩ (fun v15 f16 H locs q17 hW => ?_)
    obtain ⟨⟨x19, rfl, p20⟩, g18⟩ := q17
    have p20 : (-6 : Int) ≤ x19.toInt ∧ x19.toInt ≤ -1 := p20
    have hF := FM.tr hF g18 rfl
    exact e_I E hW rfl ⟨⟨_, rfl, trivial⟩, hF⟩ dX11_field_35
  · have q21 : 1 ≤ u2.toInt ∧ u2.toInt ≤ 1000 := by omega
    clear p12
    refine lv_iload_n hx hb dX11_field_20 rfl (lv_at hl 4 rfl) ?_
    refine lv_iconst (v := 0) hx hb dX11_field_21 (by decide) ?_
    refine lv_ldc (v := 100000) hx hb hown (hts _ tw_658) dX11_field_22 ?_
    refine t_callS (As := [.int u3, .int 0, .int 100000]) (rest := []) E hW (c_X11_within l G cI cJ cZ cD cR cT kp L f8 hW.2.2.2 _ u3 0 100000 (by decide)) wk_X11_within tw_599 rfl ⟨Nat.le_of_ble_eq_true rfl, Nat.le_of_ble_eq_true rfl⟩ ⟨rfl, rfl⟩ hl.1 rfl (Nat.le_of_ble_eq_true rfl) dX11_field_24 ⟨Nat.le_of_ble_eq_true rfl, Nat.le_of_ble_eq_true rfl⟩ (fun v22 f23 H locs q24 hW => ?_)
    obtain ⟨⟨x26, rfl, p27⟩, g25⟩ := q24
    have p27 : (x26.toInt = 1 ∧ 0 ≤ u3.toInt ∧ u3.toInt ≤ 100000) ∨ (x26.toInt = 0 ∧ (u3.toInt < 0 ∨ 100000 < u3.toInt)) := p27
    have hF := FM.tr hF g25 rfl
    refine q_if_ne (tgt := 36) hx hb dX11_field_27 (by decide) rfl (fun c28 => ?_) (fun c28 => ?_)
    · have q29 : 0 ≤ u3.toInt ∧ u3.toInt ≤ 100000 := by omega
      clear p27
      refine lv_aload_n hx hb dX11_field_36 rfl (lv_at hl 1 rfl) ?_
      refine fg_RX11_12 E hW rh0 dX11_field_37 (fun a30 m31 r32 => ?_)
      obtain rfl : a1 = a30 := (((fm_R g25 rh0 rfl).trans ((fm_R g10 rh0 rfl).trans m2))).symm.trans m31
      refine fg_RX11_114 E hW r3 dX11_field_40 (fun a33 m34 r35 => ?_)
      refine lv_iload_n hx hb dX11_field_43 rfl (lv_at hl 2 rfl) ?_
      refine t_callV (As := [.int u1]) (rest := []) E hW (c_X1_hasEstate l G cI cJ cZ cD cR cT kp L f23 hW.2.2.2 _ a33 u1 r35) r35 (by decide) rfl wk_X1_hasEstate tw_659 rfl ⟨Nat.le_of_ble_eq_true rfl, Nat.le_of_ble_eq_true rfl⟩ ⟨rfl, rfl⟩ hl.1 rfl (Nat.le_of_ble_eq_true rfl) dX11_field_44 ⟨Nat.le_of_ble_eq_true rfl, Nat.le_of_ble_eq_true rfl⟩ (fun v36 f37 H locs q38 hW => ?_)
      obtain ⟨⟨x40, rfl, p41⟩, g39⟩ := q38
      have hF := FM.tr hF g39 rfl
      refine q_if_eq (tgt := 66) hx hb dX11_field_47 (by decide) rfl (fun c42 => ?_) (fun c42 => ?_)
      · clear p41
        refine lv_aload_n hx hb dX11_field_66 rfl (lv_at hl 1 rfl) ?_
        refine lv_bipush (v := (-2)) hx hb dX11_field_67 (by decide) ?_
        refine t_callV (As := [.int (-2)]) (rest := []) E hW (c_X11_refuse l G cI cJ cZ cD cR cT kp L f37 hW.2.2.2 _ h0 (-2) rh0 (by decide)) rh0 (by decide) rfl wk_X11_refuse tw_603 rfl ⟨Nat.le_of_ble_eq_true rfl, Nat.le_of_ble_eq_true rfl⟩ ⟨rfl, rfl⟩ hl.1 rfl (Nat.le_of_ble_eq_true rfl) dX11_field_69 ⟨Nat.le_of_ble_eq_true rfl, Nat.le_of_ble_eq_true rfl⟩ (fun v43 f44 H locs q45 hW => ?_)
        obtain ⟨⟨x47, rfl, p48⟩, g46⟩ := q45
        have p48 : (-6 : Int) ≤ x47.toInt ∧ x47.toInt ≤ -1 := p48
        have hF := FM.tr hF g46 rfl
        exact e_I E hW rfl ⟨⟨_, rfl, trivial⟩, hF⟩ dX11_field_72
      · have q49 : 0 ≤ u1.toInt ∧ u1.toInt ≤ 7 := by omega
        clear p41
        refine lv_iload hx hb dX11_field_50 (lv_at hl 5 rfl) ?_
        refine lv_iconst (v := (-1)) hx hb dX11_field_52 (by decide) ?_
        refine q_icmp_eq (Y := -1) (tgt := 73) hx hb dX11_field_53 (by decide) rfl rfl (fun c50 => ?_) (fun c50 => ?_)
        · refine lv_iload hx hb dX11_field_73 (lv_at hl 5 rfl) ?_
          refine lv_iconst (v := (-1)) hx hb dX11_field_75 (by decide) ?_
          refine q_icmp_eq (Y := -1) (tgt := 97) hx hb dX11_field_76 (by decide) rfl rfl (fun c51 => ?_) (fun c51 => ?_)
          · refine lv_aload_n hx hb dX11_field_97 rfl (lv_at hl 1 rfl) ?_
            refine fg_RX11_12 E hW rh0 dX11_field_98 (fun a52 m53 r54 => ?_)
            obtain rfl : a1 = a52 := (((fm_R g39 rh0 rfl).trans m31)).symm.trans m53
            refine fg_RX11_114 E hW r3 dX11_field_101 (fun a55 m56 r57 => ?_)
            obtain rfl : a33 = a55 := (((fm_R g39 r3 rfl).trans m34)).symm.trans m56
            refine fg_RX11_130 E hW r35 dX11_field_104 (fun y58 m59 b60 => ?_)
            refine lv_bipush (v := 40) hx hb dX11_field_107 (by decide) ?_
            refine q_icmp_lt (Y := 40) (tgt := 119) hx hb dX11_field_109 (by decide) rfl rfl (fun c61 => ?_) (fun c61 => ?_)
            · refine lv_aload_n hx hb dX11_field_119 rfl (lv_at hl 1 rfl) ?_
              refine fg_RX11_12 E hW rh0 dX11_field_120 (fun a62 m63 r64 => ?_)
              obtain rfl : a1 = a62 := (m53).symm.trans m63
              refine fg_RX11_114 E hW r3 dX11_field_123 (fun a65 m66 r67 => ?_)
              obtain rfl : a33 = a65 := (m56).symm.trans m66
              refine lv_iload_n hx hb dX11_field_126 rfl (lv_at hl 2 rfl) ?_
              refine lv_iload_n hx hb dX11_field_127 rfl (lv_at hl 3 rfl) ?_
              refine lv_iload_n hx hb dX11_field_128 rfl (lv_at hl 4 rfl) ?_
              refine t_callV (As := [.int u1, .int u2, .int u3]) (rest := []) E hW (c_X1_addField l G cI cJ cZ cD cR cT kp L f37 hW.2.2.2 _ a33 u1 u2 u3 r35 (by omega) (by omega) (by omega)) r35 (by decide) rfl wk_X1_addField tw_663 rfl ⟨Nat.le_of_ble_eq_true rfl, Nat.le_of_ble_eq_true rfl⟩ ⟨rfl, rfl⟩ hl.1 rfl (Nat.le_of_ble_eq_true rfl) dX11_field_129 ⟨Nat.le_of_ble_eq_true rfl, Nat.le_of_ble_eq_true rfl⟩ (fun v68 f69 H locs q70 hW => ?_)
              obtain ⟨⟨x72, rfl, p73⟩, g71⟩ := q70
              rw [m59] at p73
              have q74 : 0 ≤ x72.toInt := by omega
              have hF := FM.tr hF g71 rfl
              refine lv_istore (lv' := [(6, .int x72), (5, .ref a4), (0, .ref h0), (1, .int u1), (2, .int u2), (3, .int u3), (4, .int u4)]) hx hb dX11_field_132 hl (by decide) rfl (fun ls hl => ?_)
              refine lv_iload hx hb dX11_field_134 (lv_at hl 6 rfl) ?_
              refine lv_iconst (v := (-1)) hx hb dX11_field_136 (by decide) ?_
              refine q_icmp_eq (Y := -1) (tgt := 152) hx hb dX11_field_137 (by decide) rfl rfl (fun c75 => ?_) (fun c75 => ?_)
              · refine lv_aload_n hx hb dX11_field_152 rfl (lv_at hl 2 rfl) ?_
                refine lv_iload hx hb dX11_field_153 (lv_at hl 0 rfl) ?_
                refine t_callV (As := [.int x72]) (rest := []) E hW (c_X11_accept l G cI cJ cZ cD cR cT kp L f69 hW.2.2.2 _ h0 x72 rh0) rh0 (by decide) rfl wk_X11_accept tw_611 rfl ⟨Nat.le_of_ble_eq_true rfl, Nat.le_of_ble_eq_true rfl⟩ ⟨rfl, rfl⟩ hl.1 rfl (Nat.le_of_ble_eq_true rfl) dX11_field_155 ⟨Nat.le_of_ble_eq_true rfl, Nat.le_of_ble_eq_true rfl⟩ (fun v76 f77 H locs q78 hW => ?_)
                obtain ⟨⟨x80, rfl, p81⟩, g79⟩ := q78
                clear p81
                have hF := FM.tr hF g79 rfl
                exact e_I E hW rfl ⟨⟨_, rfl, trivial⟩, hF⟩ dX11_field_158
              · exfalso; omega
            · refine lv_aload_n hx hb dX11_field_112 rfl (lv_at hl 1 rfl) ?_
              refine lv_bipush (v := (-5)) hx hb dX11_field_113 (by decide) ?_
              refine t_callV (As := [.int (-5)]) (rest := []) E hW (c_X11_refuse l G cI cJ cZ cD cR cT kp L f37 hW.2.2.2 _ h0 (-5) rh0 (by decide)) rh0 (by decide) rfl wk_X11_refuse tw_603 rfl ⟨Nat.le_of_ble_eq_true rfl, Nat.le_of_ble_eq_true rfl⟩ ⟨rfl, rfl⟩ hl.1 rfl (Nat.le_of_ble_eq_true rfl) dX11_field_115 ⟨Nat.le_of_ble_eq_true rfl, Nat.le_of_ble_eq_true rfl⟩ (fun v82 f83 H locs q84 hW => ?_)
              obtain ⟨⟨x86, rfl, p87⟩, g85⟩ := q84
              have p87 : (-6 : Int) ≤ x86.toInt ∧ x86.toInt ≤ -1 := p87
              have hF := FM.tr hF g85 rfl
              exact e_I E hW rfl ⟨⟨_, rfl, trivial⟩, hF⟩ dX11_field_118
          · exfalso; omega
        · refine lv_aload hx hb dX11_field_56 (lv_at hl 0 rfl) ?_
          refine lv_iload hx hb dX11_field_58 (lv_at hl 5 rfl) ?_
          refine t_callV (As := [.int u4]) (rest := []) E hW (c_X4_has l G cI cJ cZ cD cR cT kp L f37 hW.2.2.2 _ a4 u4 r6) r6 (by decide) rfl wk_X4_has tw_619 rfl ⟨Nat.le_of_ble_eq_true rfl, Nat.le_of_ble_eq_true rfl⟩ ⟨rfl, rfl⟩ hl.1 rfl (Nat.le_of_ble_eq_true rfl) dX11_field_60 ⟨Nat.le_of_ble_eq_true rfl, Nat.le_of_ble_eq_true rfl⟩ (fun v88 f89 H locs q90 hW => ?_)
          obtain ⟨⟨x92, rfl, p93⟩, g91⟩ := q90
          have hF := FM.tr hF g91 rfl
          refine q_if_ne (tgt := 73) hx hb dX11_field_63 (by decide) rfl (fun c94 => ?_) (fun c94 => ?_)
          · have q95 : 0 ≤ u4.toInt ∧ u4.toInt ≤ 39 := by omega
            clear p93
            refine lv_iload hx hb dX11_field_73 (lv_at hl 5 rfl) ?_
            refine lv_iconst (v := (-1)) hx hb dX11_field_75 (by decide) ?_
            refine q_icmp_eq (Y := -1) (tgt := 97) hx hb dX11_field_76 (by decide) rfl rfl (fun c96 => ?_) (fun c96 => ?_)
            · exfalso; omega
            · refine lv_aload hx hb dX11_field_79 (lv_at hl 0 rfl) ?_
              refine fg_RX11_87 E hW r6 dX11_field_81 (fun a97 m98 r99 => ?_)
              refine lv_iload hx hb dX11_field_84 (lv_at hl 5 rfl) ?_
              refine gl_346 E hW r99 ⟨by omega, by omega⟩ dX11_field_86 (fun y100 m101 => ?_)
              refine q_if_eq (tgt := 97) hx hb dX11_field_87 (by decide) rfl (fun c103 => ?_) (fun c103 => ?_)
              · refine lv_aload_n hx hb dX11_field_97 rfl (lv_at hl 1 rfl) ?_
                refine fg_RX11_12 E hW rh0 dX11_field_98 (fun a104 m105 r106 => ?_)
                obtain rfl : a1 = a104 := (((fm_R g91 rh0 rfl).trans ((fm_R g39 rh0 rfl).trans m31))).symm.trans m105
                refine fg_RX11_114 E hW r3 dX11_field_101 (fun a107 m108 r109 => ?_)
                obtain rfl : a33 = a107 := (((fm_R g91 r3 rfl).trans ((fm_R g39 r3 rfl).trans m34))).symm.trans m108
                refine fg_RX11_130 E hW r35 dX11_field_104 (fun y110 m111 b112 => ?_)
                refine lv_bipush (v := 40) hx hb dX11_field_107 (by decide) ?_
                refine q_icmp_lt (Y := 40) (tgt := 119) hx hb dX11_field_109 (by decide) rfl rfl (fun c113 => ?_) (fun c113 => ?_)
                · refine lv_aload_n hx hb dX11_field_119 rfl (lv_at hl 1 rfl) ?_
                  refine fg_RX11_12 E hW rh0 dX11_field_120 (fun a114 m115 r116 => ?_)
                  obtain rfl : a1 = a114 := (m105).symm.trans m115
                  refine fg_RX11_114 E hW r3 dX11_field_123 (fun a117 m118 r119 => ?_)
                  obtain rfl : a33 = a117 := (m108).symm.trans m118
                  refine lv_iload_n hx hb dX11_field_126 rfl (lv_at hl 2 rfl) ?_
                  refine lv_iload_n hx hb dX11_field_127 rfl (lv_at hl 3 rfl) ?_
                  refine lv_iload_n hx hb dX11_field_128 rfl (lv_at hl 4 rfl) ?_
                  refine t_callV (As := [.int u1, .int u2, .int u3]) (rest := []) E hW (c_X1_addField l G cI cJ cZ cD cR cT kp L f89 hW.2.2.2 _ a33 u1 u2 u3 r35 (by omega) (by omega) (by omega)) r35 (by decide) rfl wk_X1_addField tw_663 rfl ⟨Nat.le_of_ble_eq_true rfl, Nat.le_of_ble_eq_true rfl⟩ ⟨rfl, rfl⟩ hl.1 rfl (Nat.le_of_ble_eq_true rfl) dX11_field_129 ⟨Nat.le_of_ble_eq_true rfl, Nat.le_of_ble_eq_true rfl⟩ (fun v120 f121 H locs q122 hW => ?_)
                  obtain ⟨⟨x124, rfl, p125⟩, g123⟩ := q122
                  rw [m111] at p125
                  have q126 : 0 ≤ x124.toInt := by omega
                  have hF := FM.tr hF g123 rfl
                  refine lv_istore (lv' := [(6, .int x124), (5, .ref a4), (0, .ref h0), (1, .int u1), (2, .int u2), (3, .int u3), (4, .int u4)]) hx hb dX11_field_132 hl (by decide) rfl (fun ls hl => ?_)
                  refine lv_iload hx hb dX11_field_134 (lv_at hl 6 rfl) ?_
                  refine lv_iconst (v := (-1)) hx hb dX11_field_136 (by decide) ?_
                  refine q_icmp_eq (Y := -1) (tgt := 152) hx hb dX11_field_137 (by decide) rfl rfl (fun c134 => ?_) (fun c134 => ?_)
                  · exfalso; omega
                  · refine lv_aload_n hx hb dX11_field_140 rfl (lv_at hl 2 rfl) ?_
                    refine fg_RX11_12 E hW rh0 dX11_field_141 (fun a135 m136 r137 => ?_)
                    obtain rfl : a1 = a135 := (((fm_R g123 rh0 rfl).trans m115)).symm.trans m136
                    refine lv_iload hx hb dX11_field_144 (lv_at hl 6 rfl) ?_
                    refine lv_iload hx hb dX11_field_146 (lv_at hl 0 rfl) ?_
                    refine lv_iconst (v := 0) hx hb dX11_field_148 (by decide) ?_
                    refine t_callV (As := [.int u4, .int x124, .int 0]) (rest := []) E hW (c_X0_settle l G cI cJ cZ cD cR cT kp L f121 hW.2.2.2 _ a1 u4 x124 0 r3 (by omega) (by omega) (by decide)) r3 (by decide) rfl wk_X0_settle tw_667 rfl ⟨Nat.le_of_ble_eq_true rfl, Nat.le_of_ble_eq_true rfl⟩ ⟨rfl, rfl⟩ hl.1 rfl (Nat.le_of_ble_eq_true rfl) dX11_field_149 ⟨Nat.le_of_ble_eq_true rfl, Nat.le_of_ble_eq_true rfl⟩ (fun v138 f139 H locs q140 hW => ?_)
                    obtain ⟨rfl, g141⟩ := q140
                    have hF := FM.tr hF g141 rfl
                    refine lv_aload_n hx hb dX11_field_152 rfl (lv_at hl 2 rfl) ?_
                    refine lv_iload hx hb dX11_field_153 (lv_at hl 0 rfl) ?_
                    refine t_callV (As := [.int x124]) (rest := []) E hW (c_X11_accept l G cI cJ cZ cD cR cT kp L f139 hW.2.2.2 _ h0 x124 rh0) rh0 (by decide) rfl wk_X11_accept tw_611 rfl ⟨Nat.le_of_ble_eq_true rfl, Nat.le_of_ble_eq_true rfl⟩ ⟨rfl, rfl⟩ hl.1 rfl (Nat.le_of_ble_eq_true rfl) dX11_field_155 ⟨Nat.le_of_ble_eq_true rfl, Nat.le_of_ble_eq_true rfl⟩ (fun v142 f143 H locs q144 hW => ?_)
                    obtain ⟨⟨x146, rfl, p147⟩, g145⟩ := q144
                    clear p147
                    have hF := FM.tr hF g145 rfl
                    exact e_I E hW rfl ⟨⟨_, rfl, trivial⟩, hF⟩ dX11_field_158
                · refine lv_aload_n hx hb dX11_field_112 rfl (lv_at hl 1 rfl) ?_
                  refine lv_bipush (v := (-5)) hx hb dX11_field_113 (by decide) ?_
                  refine t_callV (As := [.int (-5)]) (rest := []) E hW (c_X11_refuse l G cI cJ cZ cD cR cT kp L f89 hW.2.2.2 _ h0 (-5) rh0 (by decide)) rh0 (by decide) rfl wk_X11_refuse tw_603 rfl ⟨Nat.le_of_ble_eq_true rfl, Nat.le_of_ble_eq_true rfl⟩ ⟨rfl, rfl⟩ hl.1 rfl (Nat.le_of_ble_eq_true rfl) dX11_field_115 ⟨Nat.le_of_ble_eq_true rfl, Nat.le_of_ble_eq_true rfl⟩ (fun v148 f149 H locs q150 hW => ?_)
                  obtain ⟨⟨x152, rfl, p153⟩, g151⟩ := q150
                  have p153 : (-6 : Int) ≤ x152.toInt ∧ x152.toInt ≤ -1 := p153
                  have hF := FM.tr hF g151 rfl
                  exact e_I E hW rfl ⟨⟨_, rfl, trivial⟩, hF⟩ dX11_field_118
              · refine lv_aload_n hx hb dX11_field_90 rfl (lv_at hl 1 rfl) ?_
                refine lv_bipush (v := (-3)) hx hb dX11_field_91 (by decide) ?_
                refine t_callV (As := [.int (-3)]) (rest := []) E hW (c_X11_refuse l G cI cJ cZ cD cR cT kp L f89 hW.2.2.2 _ h0 (-3) rh0 (by decide)) rh0 (by decide) rfl wk_X11_refuse tw_603 rfl ⟨Nat.le_of_ble_eq_true rfl, Nat.le_of_ble_eq_true rfl⟩ ⟨rfl, rfl⟩ hl.1 rfl (Nat.le_of_ble_eq_true rfl) dX11_field_93 ⟨Nat.le_of_ble_eq_true rfl, Nat.le_of_ble_eq_true rfl⟩ (fun v154 f155 H locs q156 hW => ?_)
                obtain ⟨⟨x158, rfl, p159⟩, g157⟩ := q156
                have p159 : (-6 : Int) ≤ x158.toInt ∧ x158.toInt ≤ -1 := p159
                have hF := FM.tr hF g157 rfl
                exact e_I E hW rfl ⟨⟨_, rfl, trivial⟩, hF⟩ dX11_field_96
          · clear p93
            refine lv_aload_n hx hb dX11_field_66 rfl (lv_at hl 1 rfl) ?_
            refine lv_bipush (v := (-2)) hx hb dX11_field_67 (by decide) ?_
            refine t_callV (As := [.int (-2)]) (rest := []) E hW (c_X11_refuse l G cI cJ cZ cD cR cT kp L f89 hW.2.2.2 _ h0 (-2) rh0 (by decide)) rh0 (by decide) rfl wk_X11_refuse tw_603 rfl ⟨Nat.le_of_ble_eq_true rfl, Nat.le_of_ble_eq_true rfl⟩ ⟨rfl, rfl⟩ hl.1 rfl (Nat.le_of_ble_eq_true rfl) dX11_field_69 ⟨Nat.le_of_ble_eq_true rfl, Nat.le_of_ble_eq_true rfl⟩ (fun v160 f161 H locs q162 hW => ?_)
            obtain ⟨⟨x164, rfl, p165⟩, g163⟩ := q162
            have p165 : (-6 : Int) ≤ x164.toInt ∧ x164.toInt ≤ -1 := p165
            have hF := FM.tr hF g163 rfl
            exact e_I E hW rfl ⟨⟨_, rfl, trivial⟩, hF⟩ dX11_field_72
    · have q166 : (u3.toInt < 0 ∨ 100000 < u3.toInt) := by omega
      clear p27
      refine lv_aload_n hx hb dX11_field_30 rfl (lv_at hl 1 rfl) ?_
      refine lv_iconst (v := (-1)) hx hb dX11_field_31 (by decide) ?_
      refine t_callV (As := [.int (-1)]) (rest := []) E hW (c_X11_refuse l G cI cJ cZ cD cR cT kp L f23 hW.2.2.2 _ h0 (-1) rh0 (by decide)) rh0 (by decide) rfl wk_X11_refuse tw_603 rfl ⟨Nat.le_of_ble_eq_true rfl, Nat.le_of_ble_eq_true rfl⟩ ⟨rfl, rfl⟩ hl.1 rfl (Nat.le_of_ble_eq_true rfl) dX11_field_32 ⟨Nat.le_of_ble_eq_true rfl, Nat.le_of_ble_eq_true rfl⟩ (fun v167 f168 H locs q169 hW => ?_)
      obtain ⟨⟨x171, rfl, p172⟩, g170⟩ := q169
      have p172 : (-6 : Int) ≤ x171.toInt ∧ x171.toInt ≤ -1 := p172
      have hF := FM.tr hF g170 rfl
      exact e_I E hW rfl ⟨⟨_, rfl, trivial⟩, hF⟩ dX11_field_35
def ms_X11_force : List (Nat × Nat) := [(222, 0), (223, 0)]
def po_X11_force (kp : Nat → Nat) (L : List Nat) (f0 : Nat → va_E) (h0 : Nat) (u1 : Int32) (u2 : Int32) (u3 : Int32) : Option Value → (Nat → va_E) → Prop := fun v f => (∃ r : Int32, v = some (.int r) ∧ ((-1 : Int) ≤ r.toInt ∧ r.toInt ≤ 1)) ∧ FM kp L ms_X11_force f0 f
set_option maxHeartbeats 4000000 in
set_option maxRecDepth 100000 in
theorem c_X11_force (l : Launch) (G : va_G) (cI cJ cZ cD cR cT : ClassId) (kp : Nat → Nat) (L : List Nat) (f0 : Nat → va_E) (hTH : TH cI cJ cZ cD cR cT kp L f0) (sz : Nat) (h0 : Nat) (u1 : Int32) (u2 : Int32) (u3 : Int32) (rh0 : RK kp L h0 11) : Met l yX11_force (Cond.code yX11_force cX11_force 5 (some .int) :: wTab) ({ frames := 3, cells := 0, slots := 0, locals := 88 }) (va_Pc [.ref h0, .int u1, .int u2, .int u3] (PreW G (tys6 cI cJ cZ cD cR cT) (va_pl L f0) sz)) (QT (po_X11_force kp L f0 h0 u1 u2 u3) G cI cJ cZ cD cR cT (va_A (va_pl L f0) sz) kp L) 0 0 (va_A (va_pl L f0) sz) := by
  refine metT (by decide) (Nat.le_of_ble_eq_true rfl) hTH ?_
  intro p e s m below meth c A ls E hW hl
  obtain ⟨hx, hb, -, hml, hown, hts, -, -, -⟩ := id E
  have hF : FM kp L ms_X11_force f0 f0 := FM.rf
  have hl : lv_has ls 5 [(0, .ref h0), (1, .int u1), (2, .int u2), (3, .int u3)] := hl
  refine lv_aload_n hx hb dX11_force_0 rfl (lv_at hl 0 rfl) ?_
  refine fg_RX11_12 E hW rh0 dX11_force_1 (fun a1 m2 r3 => ?_)
  refine fg_RX11_219 E hW r3 dX11_force_4 (fun a4 m5 r6 => ?_)
  refine lv_astore (lv' := [(4, .ref a4), (0, .ref h0), (1, .int u1), (2, .int u2), (3, .int u3)]) hx hb dX11_force_7 hl (by decide) rfl (fun ls hl => ?_)
  refine lv_aload hx hb dX11_force_9 (lv_at hl 0 rfl) ?_
  refine lv_iload_n hx hb dX11_force_11 rfl (lv_at hl 2 rfl) ?_
  refine lv_iload_n hx hb dX11_force_12 rfl (lv_at hl 3 rfl) ?_
  refine t_callV (As := [.int u1, .int u2]) (rest := []) E hW (c_X2_has l G cI cJ cZ cD cR cT kp L f0 hW.2.2.2 _ a4 u1 u2 r6) r6 (by decide) rfl wk_X2_has tw_1062 rfl ⟨Nat.le_of_ble_eq_true rfl, Nat.le_of_ble_eq_true rfl⟩ ⟨rfl, rfl⟩ hl.1 rfl (Nat.le_of_ble_eq_true rfl) dX11_force_13 ⟨Nat.le_of_ble_eq_true rfl, Nat.le_of_ble_eq_true rfl⟩ (fun v7 f8 H locs q9 hW => ?_)
  obtain ⟨⟨x12, rfl, p13⟩, g10, h11⟩ := q9
  have hF := FM.tr hF g10 rfl
  refine q_if_eq (tgt := 26) hx hb dX11_force_16 (by decide) rfl (fun c14 => ?_) (fun c14 => ?_)
  · clear p13
    refine lv_iconst (v := (-1)) hx hb dX11_force_26 (by decide) ?_
    exact e_I E hW rfl ⟨⟨_, rfl, (by have hk : ((-1) : Int32).toInt = -1 := rfl; first | decide | omega)⟩, hF⟩ dX11_force_27
  · have q15 : 0 ≤ u1.toInt ∧ u1.toInt ≤ 19 ∧ 0 ≤ u2.toInt ∧ u2.toInt ≤ 11 ∧ x12.toInt = 1 := by omega
    clear p13
    refine lv_iload_n hx hb dX11_force_19 rfl (lv_at hl 4 rfl) ?_
    refine t_callS (As := [.int u3]) (rest := []) E hW (c_X11_isWeek l G cI cJ cZ cD cR cT kp L f8 hW.2.2.2 _ u3) wk_X11_isWeek tw_780 rfl ⟨Nat.le_of_ble_eq_true rfl, Nat.le_of_ble_eq_true rfl⟩ ⟨rfl, rfl⟩ hl.1 rfl (Nat.le_of_ble_eq_true rfl) dX11_force_20 ⟨Nat.le_of_ble_eq_true rfl, Nat.le_of_ble_eq_true rfl⟩ (fun v16 f17 H locs q18 hW => ?_)
    obtain ⟨⟨x20, rfl, p21⟩, g19⟩ := q18
    have hF := FM.tr hF g19 rfl
    refine q_if_ne (tgt := 28) hx hb dX11_force_23 (by decide) rfl (fun c22 => ?_) (fun c22 => ?_)
    · have q23 : 0 ≤ u3.toInt ∧ u3.toInt ≤ 399 := by omega
      clear p21
      refine lv_aload hx hb dX11_force_28 (lv_at hl 0 rfl) ?_
      refine lv_iload_n hx hb dX11_force_30 rfl (lv_at hl 4 rfl) ?_
      refine t_callV (As := [.int u3]) (rest := []) E hW (c_X2_mark l G cI cJ cZ cD cR cT kp L f17 hW.2.2.2 _ a4 u3 r6 (by omega)) r6 (by decide) rfl wk_X2_mark tw_1066 rfl ⟨Nat.le_of_ble_eq_true rfl, Nat.le_of_ble_eq_true rfl⟩ ⟨rfl, rfl⟩ hl.1 rfl (Nat.le_of_ble_eq_true rfl) dX11_force_31 ⟨Nat.le_of_ble_eq_true rfl, Nat.le_of_ble_eq_true rfl⟩ (fun v24 f25 H locs q26 hW => ?_)
      obtain ⟨rfl, g27⟩ := q26
      have hF := FM.tr hF g27 rfl
      refine lv_aload hx hb dX11_force_34 (lv_at hl 0 rfl) ?_
      refine lv_iload_n hx hb dX11_force_36 rfl (lv_at hl 2 rfl) ?_
      refine lv_iload_n hx hb dX11_force_37 rfl (lv_at hl 3 rfl) ?_
      refine t_callV (As := [.int u1, .int u2]) (rest := []) E hW (c_X2_isInForce l G cI cJ cZ cD cR cT kp L f25 hW.2.2.2 _ a4 u1 u2 r6 (by omega) (by omega)) r6 (by decide) rfl wk_X2_isInForce tw_1067 rfl ⟨Nat.le_of_ble_eq_true rfl, Nat.le_of_ble_eq_true rfl⟩ ⟨rfl, rfl⟩ hl.1 rfl (Nat.le_of_ble_eq_true rfl) dX11_force_38 ⟨Nat.le_of_ble_eq_true rfl, Nat.le_of_ble_eq_true rfl⟩ (fun v28 f29 H locs q30 hW => ?_)
      obtain ⟨⟨x32, rfl, p33⟩, g31⟩ := q30
      have hF := FM.tr hF g31 rfl
      have J36 : ∀ (y34 : Int32) (b35 : (0 : Int) ≤ y34.toInt ∧ y34.toInt ≤ 1) (H : Heap) (locs : List Loc) (ls : Array Slot), WS G cI cJ cZ cD cR cT A kp L f29 s H locs → FM kp L ms_X11_force f0 f29 → lv_has ls 5 [(4, .ref a4), (0, .ref h0), (1, .int u1), (2, .int u2), (3, .int u3)] → W p l e ({ frames := 3, cells := 0, slots := 0, locals := 88 }) s m ([.ref h0, .int u1, .int u2, .int u3] : List Value).toArray below meth c H locs 0 0 (MQ below (QT (po_X11_force kp L f0 h0 u1 u2 u3) G cI cJ cZ cD cR cT A kp L) ([.ref h0, .int u1, .int u2, .int u3] : List Value).toArray s 0 0 A) (F0 m 49 ls [.int y34]) := by
        intro y34 b35 H locs ls hW hF hl
        clear c22 p33
        exact e_I E hW rfl ⟨⟨_, rfl, (by first | omega | trivial)⟩, hF⟩ dX11_force_49
      refine q_if_eq (tgt := 48) hx hb dX11_force_41 (by decide) rfl (fun c37 => ?_) (fun c37 => ?_)
      · refine lv_iconst (v := 0) hx hb dX11_force_48 (by decide) ?_
        exact J36 0 (by decide) _ _ _ hW hF (lv_sub hl [0, 1, 2, 3, 4] rfl)
      · refine lv_iconst (v := 1) hx hb dX11_force_44 (by decide) ?_
        refine lv_goto (tgt := 49) hx hb dX11_force_45 (by decide) ?_
        exact J36 1 (by decide) _ _ _ hW hF (lv_sub hl [0, 1, 2, 3, 4] rfl)
    · have q38 : (u3.toInt < 0 ∨ 399 < u3.toInt) := by omega
      clear p21
      refine lv_iconst (v := (-1)) hx hb dX11_force_26 (by decide) ?_
      exact e_I E hW rfl ⟨⟨_, rfl, (by have hk : ((-1) : Int32).toInt = -1 := rfl; first | decide | omega)⟩, hF⟩ dX11_force_27
def ms_X11_found : List (Nat × Nat) := []
def po_X11_found (kp : Nat → Nat) (L : List Nat) (f0 : Nat → va_E) (h0 : Nat) : Option Value → (Nat → va_E) → Prop := fun v f => (∃ r : Int32, v = some (.int r) ∧ ((-3 : Int) ≤ r.toInt ∧ r.toInt ≤ 39)) ∧ FM kp L ms_X11_found f0 f
set_option maxHeartbeats 4000000 in
set_option maxRecDepth 100000 in
theorem c_X11_found (l : Launch) (G : va_G) (cI cJ cZ cD cR cT : ClassId) (kp : Nat → Nat) (L : List Nat) (f0 : Nat → va_E) (hTH : TH cI cJ cZ cD cR cT kp L f0) (sz : Nat) (h0 : Nat) (rh0 : RK kp L h0 11) : Met l yX11_found (Cond.code yX11_found cX11_found 1 (some .int) :: wTab) ({ frames := 3, cells := 0, slots := 0, locals := 88 }) (va_Pc [.ref h0] (PreW G (tys6 cI cJ cZ cD cR cT) (va_pl L f0) sz)) (QT (po_X11_found kp L f0 h0) G cI cJ cZ cD cR cT (va_A (va_pl L f0) sz) kp L) 0 0 (va_A (va_pl L f0) sz) := by
  refine metT (by decide) (Nat.le_of_ble_eq_true rfl) hTH ?_
  intro p e s m below meth c A ls E hW hl
  obtain ⟨hx, hb, -, hml, hown, hts, -, -, -⟩ := id E
  have hF : FM kp L ms_X11_found f0 f0 := FM.rf
  have hl : lv_has ls 1 [(0, .ref h0)] := hl
  refine lv_aload_n hx hb dX11_found_0 rfl (lv_at hl 0 rfl) ?_
  refine fg_RX11_12 E hW rh0 dX11_found_1 (fun a1 m2 r3 => ?_)
  refine fg_RX11_114 E hW r3 dX11_found_4 (fun a4 m5 r6 => ?_)
  refine t_callV (As := []) (rest := []) E hW (c_X1_findAltered l G cI cJ cZ cD cR cT kp L f0 hW.2.2.2 _ a4 r6) r6 (by decide) rfl wk_X1_findAltered tw_1364 rfl ⟨Nat.le_of_ble_eq_true rfl, Nat.le_of_ble_eq_true rfl⟩ ⟨rfl, rfl⟩ hl.1 rfl (Nat.le_of_ble_eq_true rfl) dX11_found_7 ⟨Nat.le_of_ble_eq_true rfl, Nat.le_of_ble_eq_true rfl⟩ (fun v7 f8 H locs q9 hW => ?_)
  obtain ⟨⟨x11, rfl, p12⟩, g10⟩ := q9
  have hF := FM.tr hF g10 rfl
  exact e_I E hW rfl ⟨⟨_, rfl, (by first | omega | trivial)⟩, hF⟩ dX11_found_10
def ms_X11_fund : List (Nat × Nat) := []
def po_X11_fund (kp : Nat → Nat) (L : List Nat) (f0 : Nat → va_E) (h0 : Nat) : Option Value → (Nat → va_E) → Prop := fun v f => (∃ r : Int32, v = some (.int r) ∧ (True)) ∧ FM kp L ms_X11_fund f0 f
set_option maxHeartbeats 4000000 in
set_option maxRecDepth 100000 in
theorem c_X11_fund (l : Launch) (G : va_G) (cI cJ cZ cD cR cT : ClassId) (kp : Nat → Nat) (L : List Nat) (f0 : Nat → va_E) (hTH : TH cI cJ cZ cD cR cT kp L f0) (sz : Nat) (h0 : Nat) (rh0 : RK kp L h0 11) : Met l yX11_fund (Cond.code yX11_fund cX11_fund 1 (some .int) :: wTab) ({ frames := 1, cells := 0, slots := 0, locals := 40 }) (va_Pc [.ref h0] (PreW G (tys6 cI cJ cZ cD cR cT) (va_pl L f0) sz)) (QT (po_X11_fund kp L f0 h0) G cI cJ cZ cD cR cT (va_A (va_pl L f0) sz) kp L) 0 0 (va_A (va_pl L f0) sz) := by
  refine metT (by decide) (Nat.le_of_ble_eq_true rfl) hTH ?_
  intro p e s m below meth c A ls E hW hl
  obtain ⟨hx, hb, -, hml, hown, hts, -, -, -⟩ := id E
  have hF : FM kp L ms_X11_fund f0 f0 := FM.rf
  have hl : lv_has ls 1 [(0, .ref h0)] := hl
  refine lv_aload_n hx hb dX11_fund_0 rfl (lv_at hl 0 rfl) ?_
  refine fg_RX11_12 E hW rh0 dX11_fund_1 (fun a1 m2 r3 => ?_)
  refine fg_RX11_98 E hW r3 dX11_fund_4 (fun a4 m5 r6 => ?_)
  refine fg_RX11_102 E hW r6 dX11_fund_7 (fun y7 m8 => ?_)
  exact e_I E hW rfl ⟨⟨_, rfl, trivial⟩, hF⟩ dX11_fund_10
def ms_X11_give : List (Nat × Nat) := [(3, 0), (11, 15)]
def po_X11_give (kp : Nat → Nat) (L : List Nat) (f0 : Nat → va_E) (h0 : Nat) (u1 : Int32) : Option Value → (Nat → va_E) → Prop := fun v f => (∃ r : Int32, v = some (.int r) ∧ (True)) ∧ FM kp L ms_X11_give f0 f
set_option maxHeartbeats 4000000 in
set_option maxRecDepth 100000 in
theorem c_X11_give (l : Launch) (G : va_G) (cI cJ cZ cD cR cT : ClassId) (kp : Nat → Nat) (L : List Nat) (f0 : Nat → va_E) (hTH : TH cI cJ cZ cD cR cT kp L f0) (sz : Nat) (h0 : Nat) (u1 : Int32) (rh0 : RK kp L h0 11) : Met l yX11_give (Cond.code yX11_give cX11_give 3 (some .int) :: wTab) ({ frames := 2, cells := 0, slots := 0, locals := 62 }) (va_Pc [.ref h0, .int u1] (PreW G (tys6 cI cJ cZ cD cR cT) (va_pl L f0) sz)) (QT (po_X11_give kp L f0 h0 u1) G cI cJ cZ cD cR cT (va_A (va_pl L f0) sz) kp L) 0 0 (va_A (va_pl L f0) sz) := by
  refine metT (by decide) (Nat.le_of_ble_eq_true rfl) hTH ?_
  intro p e s m below meth c A ls E hW hl
  obtain ⟨hx, hb, -, hml, hown, hts, -, -, -⟩ := id E
  have hF : FM kp L ms_X11_give f0 f0 := FM.rf
  have hl : lv_has ls 3 [(0, .ref h0), (1, .int u1)] := hl
  refine lv_iload_n hx hb dX11_give_0 rfl (lv_at hl 1 rfl) ?_
  refine lv_iconst (v := 0) hx hb dX11_give_1 (by decide) ?_
  refine lv_ldc (v := 10000000) hx hb hown (hts _ tw_643) dX11_give_2 ?_
  refine t_callS (As := [.int u1, .int 0, .int 10000000]) (rest := []) E hW (c_X11_within l G cI cJ cZ cD cR cT kp L f0 hW.2.2.2 _ u1 0 10000000 (by decide)) wk_X11_within tw_599 rfl ⟨Nat.le_of_ble_eq_true rfl, Nat.le_of_ble_eq_true rfl⟩ ⟨rfl, rfl⟩ hl.1 rfl (Nat.le_of_ble_eq_true rfl) dX11_give_4 ⟨Nat.le_of_ble_eq_true rfl, Nat.le_of_ble_eq_true rfl⟩ (fun v1 f2 H locs q3 hW => ?_)
  obtain ⟨⟨x5, rfl, p6⟩, g4⟩ := q3
  have p6 : (x5.toInt = 1 ∧ 0 ≤ u1.toInt ∧ u1.toInt ≤ 10000000) ∨ (x5.toInt = 0 ∧ (u1.toInt < 0 ∨ 10000000 < u1.toInt)) := p6
  have hF := FM.tr hF g4 rfl
  refine q_if_ne (tgt := 16) hx hb dX11_give_7 (by decide) rfl (fun c7 => ?_) (fun c7 => ?_)
  · have q8 : 0 ≤ u1.toInt ∧ u1.toInt ≤ 10000000 := by omega
    clear p6
    refine lv_aload_n hx hb dX11_give_16 rfl (lv_at hl 0 rfl) ?_
    refine fg_RX11_12 E hW rh0 dX11_give_17 (fun a9 m10 r11 => ?_)
    refine fg_RX11_98 E hW r11 dX11_give_20 (fun a12 m13 r14 => ?_)
    refine lv_astore_n (lv' := [(2, .ref a12), (0, .ref h0), (1, .int u1)]) hx hb dX11_give_23 rfl hl (by decide) rfl (fun ls hl => ?_)
    refine lv_aload_n hx hb dX11_give_24 rfl (lv_at hl 0 rfl) ?_
    refine lv_aload_n hx hb dX11_give_25 rfl (lv_at hl 0 rfl) ?_
    refine fg_RX11_102 E hW r14 dX11_give_26 (fun y15 m16 => ?_)
    refine lv_iload_n hx hb dX11_give_29 rfl (lv_at hl 2 rfl) ?_
    refine u_iadd hx hb dX11_give_30 (fun x18 => ?_)
    refine lv_ldc (v := 100000000) hx hb hown (hts _ tw_644) dX11_give_31 ?_
    refine t_min (Y := 100000000) (own := RX11) E tw_645 ⟨tw_637, tw_115, tw_638⟩ hl.1 ⟨Nat.le_of_ble_eq_true rfl, Nat.le_of_ble_eq_true rfl⟩ ⟨Nat.le_of_ble_eq_true rfl, Nat.le_of_ble_eq_true rfl⟩ rfl rfl dX11_give_33 (fun x19 h20 => ?_)
    refine fp_RX11_102 E hW r14 dX11_give_36 (fun f21 H locs e22 n23 g24 hW => ?_)
    have hF := FM.tr hF g24 rfl
    refine lv_aload_n hx hb dX11_give_39 rfl (lv_at hl 1 rfl) ?_
    refine lv_aload_n hx hb dX11_give_40 rfl (lv_at hl 0 rfl) ?_
    refine fg_RX11_102 E hW r14 dX11_give_41 (fun y25 m26 => ?_)
    obtain rfl : x19 = y25 := (e22).symm.trans m26
    refine t_callV (As := [.int x19]) (rest := []) E hW (c_X11_accept l G cI cJ cZ cD cR cT kp L f21 hW.2.2.2 _ h0 x19 rh0) rh0 (by decide) rfl wk_X11_accept tw_611 rfl ⟨Nat.le_of_ble_eq_true rfl, Nat.le_of_ble_eq_true rfl⟩ ⟨rfl, rfl⟩ hl.1 rfl (Nat.le_of_ble_eq_true rfl) dX11_give_44 ⟨Nat.le_of_ble_eq_true rfl, Nat.le_of_ble_eq_true rfl⟩ (fun v28 f29 H locs q30 hW => ?_)
    obtain ⟨⟨x32, rfl, p33⟩, g31⟩ := q30
    clear p33
    have hF := FM.tr hF g31 rfl
    exact e_I E hW rfl ⟨⟨_, rfl, trivial⟩, hF⟩ dX11_give_47
  · have q34 : (u1.toInt < 0 ∨ 10000000 < u1.toInt) := by omega
    clear p6
    refine lv_aload_n hx hb dX11_give_10 rfl (lv_at hl 0 rfl) ?_
    refine lv_iconst (v := (-1)) hx hb dX11_give_11 (by decide) ?_
    refine t_callV (As := [.int (-1)]) (rest := []) E hW (c_X11_refuse l G cI cJ cZ cD cR cT kp L f2 hW.2.2.2 _ h0 (-1) rh0 (by decide)) rh0 (by decide) rfl wk_X11_refuse tw_603 rfl ⟨Nat.le_of_ble_eq_true rfl, Nat.le_of_ble_eq_true rfl⟩ ⟨rfl, rfl⟩ hl.1 rfl (Nat.le_of_ble_eq_true rfl) dX11_give_12 ⟨Nat.le_of_ble_eq_true rfl, Nat.le_of_ble_eq_true rfl⟩ (fun v35 f36 H locs q37 hW => ?_)
    obtain ⟨⟨x39, rfl, p40⟩, g38⟩ := q37
    have p40 : (-6 : Int) ≤ x39.toInt ∧ x39.toInt ≤ -1 := p40
    have hF := FM.tr hF g38 rfl
    exact e_I E hW rfl ⟨⟨_, rfl, trivial⟩, hF⟩ dX11_give_15
def ms_X11_go : List (Nat × Nat) := [(0, 6), (0, 12), (0, 13), (0, 14), (3, 0), (10, 0), (11, 15), (115, 0), (164, 0), (165, 0), (166, 0), (167, 0), (169, 0), (171, 0), (222, 0), (223, 0), (342, 0), (345, 0), (346, 0), (347, 0), (348, 0), (349, 0), (701, 0), (702, 0), (703, 0), (704, 0), (705, 0), (706, 0)]
def po_X11_go (kp : Nat → Nat) (L : List Nat) (f0 : Nat → va_E) (h0 : Nat) (u1 : Int32) : Option Value → (Nat → va_E) → Prop := fun v f => (∃ r : Int32, v = some (.int r) ∧ (True)) ∧ FM kp L ms_X11_go f0 f
set_option maxHeartbeats 4000000 in
set_option maxRecDepth 100000 in
theorem c_X11_go (l : Launch) (G : va_G) (cI cJ cZ cD cR cT : ClassId) (kp : Nat → Nat) (L : List Nat) (f0 : Nat → va_E) (hTH : TH cI cJ cZ cD cR cT kp L f0) (sz : Nat) (h0 : Nat) (u1 : Int32) (rh0 : RK kp L h0 11) : Met l yX11_go (Cond.code yX11_go cX11_go 3 (some .int) :: wTab) ({ frames := 7, cells := 0, slots := 0, locals := 191 }) (va_Pc [.ref h0, .int u1] (PreW G (tys6 cI cJ cZ cD cR cT) (va_pl L f0) sz)) (QT (po_X11_go kp L f0 h0 u1) G cI cJ cZ cD cR cT (va_A (va_pl L f0) sz) kp L) 0 0 (va_A (va_pl L f0) sz) := by
  refine metT (by decide) (Nat.le_of_ble_eq_true rfl) hTH ?_
  intro p e s m below meth c A ls E hW hl
  obtain ⟨hx, hb, -, hml, hown, hts, -, -, -⟩ := id E
  have hF : FM kp L ms_X11_go f0 f0 := FM.rf
  have hl : lv_has ls 3 [(0, .ref h0), (1, .int u1)] := hl
  refine lv_aload_n hx hb dX11_go_0 rfl (lv_at hl 0 rfl) ?_
  refine lv_iload_n hx hb dX11_go_1 rfl (lv_at hl 1 rfl) ?_
  refine t_callV (As := [.int u1]) (rest := []) E hW (c_X11_canGo l G cI cJ cZ cD cR cT kp L f0 hW.2.2.2 _ h0 u1 rh0) rh0 (by decide) rfl wk_X11_canGo tw_1110 rfl ⟨Nat.le_of_ble_eq_true rfl, Nat.le_of_ble_eq_true rfl⟩ ⟨rfl, rfl⟩ hl.1 rfl (Nat.le_of_ble_eq_true rfl) dX11_go_2 ⟨Nat.le_of_ble_eq_true rfl, Nat.le_of_ble_eq_true rfl⟩ (fun v1 f2 H locs q3 hW => ?_)
  obtain ⟨⟨x5, rfl, p6⟩, g4⟩ := q3
  have hF := FM.tr hF g4 rfl
  refine q_if_ne (tgt := 14) hx hb dX11_go_5 (by decide) rfl (fun c7 => ?_) (fun c7 => ?_)
  · have q8 : 1 ≤ u1.toInt ∧ u1.toInt ≤ 104 := by omega
    clear p6
    refine lv_iconst (v := 0) hx hb dX11_go_14 (by decide) ?_
    refine lv_istore_n (lv' := [(2, .int 0), (0, .ref h0), (1, .int u1)]) hx hb dX11_go_15 rfl hl (by decide) rfl (fun ls hl => ?_)
    have L467 : ∀ (n : Nat), ∀ (f464 : Nat → va_E) (y465 : Int32) (b466 : (0 : Int) ≤ y465.toInt ∧ y465.toInt ≤ 104) (hm : (105 : Int) - y465.toInt ≤ n) (H : Heap) (locs : List Loc) (ls : Array Slot), WS G cI cJ cZ cD cR cT A kp L f464 s H locs → FM kp L ms_X11_go f0 f464 → lv_has ls 3 [(2, .int y465), (0, .ref h0), (1, .int u1)] → W p l e ({ frames := 7, cells := 0, slots := 0, locals := 191 }) s m ([.ref h0, .int u1] : List Value).toArray below meth c H locs 0 0 (MQ below (QT (po_X11_go kp L f0 h0 u1) G cI cJ cZ cD cR cT A kp L) ([.ref h0, .int u1] : List Value).toArray s 0 0 A) (F0 m 16 ls []) := by
      intro n
      induction n with
      | zero =>
        intro f464 y465 b466 hm H locs ls hW hF hl
        have hz := i32_b y465
        exfalso; omega
      | succ n ih =>
        intro f464 y465 b466 hm H locs ls hW hF hl
        clear c7
        have ih16 := ih
        refine lv_iload_n hx hb dX11_go_16 rfl (lv_at hl 0 rfl) ?_
        refine lv_iload_n hx hb dX11_go_17 rfl (lv_at hl 2 rfl) ?_
        refine q_icmp_ge (tgt := 34) hx hb dX11_go_18 (by decide) rfl rfl (fun c477 => ?_) (fun c477 => ?_)
        · refine lv_aload_n hx hb dX11_go_34 rfl (lv_at hl 1 rfl) ?_
          refine lv_aload_n hx hb dX11_go_35 rfl (lv_at hl 1 rfl) ?_
          refine fg_RX11_12 E hW rh0 dX11_go_36 (fun a478 m479 r480 => ?_)
          refine fg_RX11_255 E hW r480 dX11_go_39 (fun y481 m482 b483 => ?_)
          refine t_callV (As := [.int y481]) (rest := []) E hW (c_X11_accept l G cI cJ cZ cD cR cT kp L f464 hW.2.2.2 _ h0 y481 rh0) rh0 (by decide) rfl wk_X11_accept tw_611 rfl ⟨Nat.le_of_ble_eq_true rfl, Nat.le_of_ble_eq_true rfl⟩ ⟨rfl, rfl⟩ hl.1 rfl (Nat.le_of_ble_eq_true rfl) dX11_go_42 ⟨Nat.le_of_ble_eq_true rfl, Nat.le_of_ble_eq_true rfl⟩ (fun v484 f485 H locs q486 hW => ?_)
          obtain ⟨⟨x488, rfl, p489⟩, g487⟩ := q486
          clear p489
          have hF := FM.tr hF g487 rfl
          exact e_I E hW rfl ⟨⟨_, rfl, trivial⟩, hF⟩ dX11_go_45
        · refine lv_aload_n hx hb dX11_go_21 rfl (lv_at hl 1 rfl) ?_
          refine fg_RX11_12 E hW rh0 dX11_go_22 (fun a490 m491 r492 => ?_)
          refine t_callV (As := []) (rest := []) E hW (c_X0_passWeek l G cI cJ cZ cD cR cT kp L f464 hW.2.2.2 _ a490 r492) r492 (by decide) rfl wk_X0_passWeek tw_1114 rfl ⟨Nat.le_of_ble_eq_true rfl, Nat.le_of_ble_eq_true rfl⟩ ⟨rfl, rfl⟩ hl.1 rfl (Nat.le_of_ble_eq_true rfl) dX11_go_25 ⟨Nat.le_of_ble_eq_true rfl, Nat.le_of_ble_eq_true rfl⟩ (fun v493 f494 H locs q495 hW => ?_)
          obtain ⟨rfl, g496⟩ := q495
          have hF := FM.tr hF g496 rfl
          refine q_iinc hx hb dX11_go_28 hl (k := 0) rfl rfl rfl (by omega) (by decide) (fun i497 ls h498 hl => ?_)
          have hl : lv_has ls 3 [(2, .int i497), (0, .ref h0), (1, .int u1)] := hl
          refine lv_goto (tgt := 16) hx hb dX11_go_31 (by decide) ?_
          exact ih16 f494 i497 (by omega) (by omega) _ _ _ hW hF (lv_sub hl [0, 1, 2] rfl)
    have hk499 : (0 : Int32).toInt = 0 := rfl
    exact L467 105 f2 0 (by decide) (by omega) _ _ _ hW hF (lv_sub hl [0, 1, 2] rfl)
  · clear p6
    refine lv_aload_n hx hb dX11_go_8 rfl (lv_at hl 0 rfl) ?_
    refine lv_iconst (v := (-1)) hx hb dX11_go_9 (by decide) ?_
    refine t_callV (As := [.int (-1)]) (rest := []) E hW (c_X11_refuse l G cI cJ cZ cD cR cT kp L f2 hW.2.2.2 _ h0 (-1) rh0 (by decide)) rh0 (by decide) rfl wk_X11_refuse tw_603 rfl ⟨Nat.le_of_ble_eq_true rfl, Nat.le_of_ble_eq_true rfl⟩ ⟨rfl, rfl⟩ hl.1 rfl (Nat.le_of_ble_eq_true rfl) dX11_go_10 ⟨Nat.le_of_ble_eq_true rfl, Nat.le_of_ble_eq_true rfl⟩ (fun v500 f501 H locs q502 hW => ?_)
    obtain ⟨⟨x504, rfl, p505⟩, g503⟩ := q502
    have p505 : (-6 : Int) ≤ x504.toInt ∧ x504.toInt ≤ -1 := p505
    have hF := FM.tr hF g503 rfl
    exact e_I E hW rfl ⟨⟨_, rfl, trivial⟩, hF⟩ dX11_go_13
def ms_X11_goes : List (Nat × Nat) := [(11, 15), (346, 0)]
def po_X11_goes (kp : Nat → Nat) (L : List Nat) (f0 : Nat → va_E) (h0 : Nat) (u1 : Int32) (u2 : Int32) : Option Value → (Nat → va_E) → Prop := fun v f => (∃ r : Int32, v = some (.int r) ∧ (True)) ∧ FM kp L ms_X11_goes f0 f
set_option maxHeartbeats 4000000 in
set_option maxRecDepth 100000 in
theorem c_X11_goes (l : Launch) (G : va_G) (cI cJ cZ cD cR cT : ClassId) (kp : Nat → Nat) (L : List Nat) (f0 : Nat → va_E) (hTH : TH cI cJ cZ cD cR cT kp L f0) (sz : Nat) (h0 : Nat) (u1 : Int32) (u2 : Int32) (rh0 : RK kp L h0 11) : Met l yX11_goes (Cond.code yX11_goes cX11_goes 4 (some .int) :: wTab) ({ frames := 2, cells := 0, slots := 0, locals := 62 }) (va_Pc [.ref h0, .int u1, .int u2] (PreW G (tys6 cI cJ cZ cD cR cT) (va_pl L f0) sz)) (QT (po_X11_goes kp L f0 h0 u1 u2) G cI cJ cZ cD cR cT (va_A (va_pl L f0) sz) kp L) 0 0 (va_A (va_pl L f0) sz) := by
  refine metT (by decide) (Nat.le_of_ble_eq_true rfl) hTH ?_
  intro p e s m below meth c A ls E hW hl
  obtain ⟨hx, hb, -, hml, hown, hts, -, -, -⟩ := id E
  have hF : FM kp L ms_X11_goes f0 f0 := FM.rf
  have hl : lv_has ls 4 [(0, .ref h0), (1, .int u1), (2, .int u2)] := hl
  refine lv_aload_n hx hb dX11_goes_0 rfl (lv_at hl 0 rfl) ?_
  refine fg_RX11_12 E hW rh0 dX11_goes_1 (fun a1 m2 r3 => ?_)
  refine fg_RX11_63 E hW r3 dX11_goes_4 (fun a4 m5 r6 => ?_)
  refine lv_astore_n (lv' := [(3, .ref a4), (0, .ref h0), (1, .int u1), (2, .int u2)]) hx hb dX11_goes_7 rfl hl (by decide) rfl (fun ls hl => ?_)
  refine lv_iload_n hx hb dX11_goes_8 rfl (lv_at hl 3 rfl) ?_
  refine lv_iconst (v := 0) hx hb dX11_goes_9 (by decide) ?_
  refine lv_iconst (v := 4) hx hb dX11_goes_10 (by decide) ?_
  refine t_callS (As := [.int u2, .int 0, .int 4]) (rest := []) E hW (c_X11_within l G cI cJ cZ cD cR cT kp L f0 hW.2.2.2 _ u2 0 4 (by decide)) wk_X11_within tw_599 rfl ⟨Nat.le_of_ble_eq_true rfl, Nat.le_of_ble_eq_true rfl⟩ ⟨rfl, rfl⟩ hl.1 rfl (Nat.le_of_ble_eq_true rfl) dX11_goes_11 ⟨Nat.le_of_ble_eq_true rfl, Nat.le_of_ble_eq_true rfl⟩ (fun v7 f8 H locs q9 hW => ?_)
  obtain ⟨⟨x11, rfl, p12⟩, g10⟩ := q9
  have p12 : (x11.toInt = 1 ∧ 0 ≤ u2.toInt ∧ u2.toInt ≤ 4) ∨ (x11.toInt = 0 ∧ (u2.toInt < 0 ∨ 4 < u2.toInt)) := p12
  have hF := FM.tr hF g10 rfl
  refine q_if_ne (tgt := 23) hx hb dX11_goes_14 (by decide) rfl (fun c13 => ?_) (fun c13 => ?_)
  · have q14 : 0 ≤ u2.toInt ∧ u2.toInt ≤ 4 := by omega
    clear p12
    refine lv_aload_n hx hb dX11_goes_23 rfl (lv_at hl 0 rfl) ?_
    refine lv_iload_n hx hb dX11_goes_24 rfl (lv_at hl 2 rfl) ?_
    refine t_callV (As := [.int u1]) (rest := []) E hW (c_X4_has l G cI cJ cZ cD cR cT kp L f8 hW.2.2.2 _ a4 u1 r6) r6 (by decide) rfl wk_X4_has tw_619 rfl ⟨Nat.le_of_ble_eq_true rfl, Nat.le_of_ble_eq_true rfl⟩ ⟨rfl, rfl⟩ hl.1 rfl (Nat.le_of_ble_eq_true rfl) dX11_goes_25 ⟨Nat.le_of_ble_eq_true rfl, Nat.le_of_ble_eq_true rfl⟩ (fun v15 f16 H locs q17 hW => ?_)
    obtain ⟨⟨x19, rfl, p20⟩, g18⟩ := q17
    have hF := FM.tr hF g18 rfl
    refine q_if_ne (tgt := 38) hx hb dX11_goes_28 (by decide) rfl (fun c21 => ?_) (fun c21 => ?_)
    · have q22 : 0 ≤ u1.toInt ∧ u1.toInt ≤ 39 := by omega
      clear p20
      refine lv_aload_n hx hb dX11_goes_38 rfl (lv_at hl 0 rfl) ?_
      refine fg_RX11_87 E hW r6 dX11_goes_39 (fun a23 m24 r25 => ?_)
      refine lv_iload_n hx hb dX11_goes_42 rfl (lv_at hl 2 rfl) ?_
      refine gl_346 E hW r25 ⟨by omega, by omega⟩ dX11_goes_43 (fun y26 m27 => ?_)
      refine lv_iconst (v := 4) hx hb dX11_goes_44 (by decide) ?_
      refine q_icmp_ne (Y := 4) (tgt := 55) hx hb dX11_goes_45 (by decide) rfl rfl (fun c29 => ?_) (fun c29 => ?_)
      · refine lv_aload_n hx hb dX11_goes_55 rfl (lv_at hl 0 rfl) ?_
        refine fg_RX11_87 E hW r6 dX11_goes_56 (fun a30 m31 r32 => ?_)
        obtain rfl : a23 = a30 := (m24).symm.trans m31
        refine lv_iload_n hx hb dX11_goes_59 rfl (lv_at hl 2 rfl) ?_
        refine lv_iload_n hx hb dX11_goes_60 rfl (lv_at hl 3 rfl) ?_
        refine gs_346 E hW r25 ⟨by omega, by omega⟩ dX11_goes_61 (fun f33 H locs e34 n35 g36 hW => ?_)
        have hF := FM.tr hF g36 rfl
        refine lv_aload_n hx hb dX11_goes_62 rfl (lv_at hl 1 rfl) ?_
        refine lv_iconst (v := 0) hx hb dX11_goes_63 (by decide) ?_
        refine t_callV (As := [.int 0]) (rest := []) E hW (c_X11_accept l G cI cJ cZ cD cR cT kp L f33 hW.2.2.2 _ h0 0 rh0) rh0 (by decide) rfl wk_X11_accept tw_611 rfl ⟨Nat.le_of_ble_eq_true rfl, Nat.le_of_ble_eq_true rfl⟩ ⟨rfl, rfl⟩ hl.1 rfl (Nat.le_of_ble_eq_true rfl) dX11_goes_64 ⟨Nat.le_of_ble_eq_true rfl, Nat.le_of_ble_eq_true rfl⟩ (fun v37 f38 H locs q39 hW => ?_)
        obtain ⟨⟨x41, rfl, p42⟩, g40⟩ := q39
        clear p42
        have hF := FM.tr hF g40 rfl
        exact e_I E hW rfl ⟨⟨_, rfl, trivial⟩, hF⟩ dX11_goes_67
      · refine lv_aload_n hx hb dX11_goes_48 rfl (lv_at hl 1 rfl) ?_
        refine lv_bipush (v := (-3)) hx hb dX11_goes_49 (by decide) ?_
        refine t_callV (As := [.int (-3)]) (rest := []) E hW (c_X11_refuse l G cI cJ cZ cD cR cT kp L f16 hW.2.2.2 _ h0 (-3) rh0 (by decide)) rh0 (by decide) rfl wk_X11_refuse tw_603 rfl ⟨Nat.le_of_ble_eq_true rfl, Nat.le_of_ble_eq_true rfl⟩ ⟨rfl, rfl⟩ hl.1 rfl (Nat.le_of_ble_eq_true rfl) dX11_goes_51 ⟨Nat.le_of_ble_eq_true rfl, Nat.le_of_ble_eq_true rfl⟩ (fun v43 f44 H locs q45 hW => ?_)
        obtain ⟨⟨x47, rfl, p48⟩, g46⟩ := q45
        have p48 : (-6 : Int) ≤ x47.toInt ∧ x47.toInt ≤ -1 := p48
        have hF := FM.tr hF g46 rfl
        exact e_I E hW rfl ⟨⟨_, rfl, trivial⟩, hF⟩ dX11_goes_54
    · clear p20
      refine lv_aload_n hx hb dX11_goes_31 rfl (lv_at hl 1 rfl) ?_
      refine lv_bipush (v := (-2)) hx hb dX11_goes_32 (by decide) ?_
      refine t_callV (As := [.int (-2)]) (rest := []) E hW (c_X11_refuse l G cI cJ cZ cD cR cT kp L f16 hW.2.2.2 _ h0 (-2) rh0 (by decide)) rh0 (by decide) rfl wk_X11_refuse tw_603 rfl ⟨Nat.le_of_ble_eq_true rfl, Nat.le_of_ble_eq_true rfl⟩ ⟨rfl, rfl⟩ hl.1 rfl (Nat.le_of_ble_eq_true rfl) dX11_goes_34 ⟨Nat.le_of_ble_eq_true rfl, Nat.le_of_ble_eq_true rfl⟩ (fun v49 f50 H locs q51 hW => ?_)
      obtain ⟨⟨x53, rfl, p54⟩, g52⟩ := q51
      have p54 : (-6 : Int) ≤ x53.toInt ∧ x53.toInt ≤ -1 := p54
      have hF := FM.tr hF g52 rfl
      exact e_I E hW rfl ⟨⟨_, rfl, trivial⟩, hF⟩ dX11_goes_37
  · have q55 : (u2.toInt < 0 ∨ 4 < u2.toInt) := by omega
    clear p12
    refine lv_aload_n hx hb dX11_goes_17 rfl (lv_at hl 1 rfl) ?_
    refine lv_iconst (v := (-1)) hx hb dX11_goes_18 (by decide) ?_
    refine t_callV (As := [.int (-1)]) (rest := []) E hW (c_X11_refuse l G cI cJ cZ cD cR cT kp L f8 hW.2.2.2 _ h0 (-1) rh0 (by decide)) rh0 (by decide) rfl wk_X11_refuse tw_603 rfl ⟨Nat.le_of_ble_eq_true rfl, Nat.le_of_ble_eq_true rfl⟩ ⟨rfl, rfl⟩ hl.1 rfl (Nat.le_of_ble_eq_true rfl) dX11_goes_19 ⟨Nat.le_of_ble_eq_true rfl, Nat.le_of_ble_eq_true rfl⟩ (fun v56 f57 H locs q58 hW => ?_)
    obtain ⟨⟨x60, rfl, p61⟩, g59⟩ := q58
    have p61 : (-6 : Int) ≤ x60.toInt ∧ x60.toInt ≤ -1 := p61
    have hF := FM.tr hF g59 rfl
    exact e_I E hW rfl ⟨⟨_, rfl, trivial⟩, hF⟩ dX11_goes_22
def ms_X11_gotOnPaper : List (Nat × Nat) := [(0, 6), (0, 9), (0, 12), (0, 13), (0, 14), (1, 0), (1, 8), (1, 12), (1, 13), (1, 14), (2, 0), (3, 0), (3, 1), (3, 2), (3, 3), (4, 0), (10, 0), (10, 7), (108, 0), (115, 0), (161, 0), (162, 0), (163, 0), (164, 0), (165, 0), (166, 0), (167, 0), (169, 0), (170, 0), (171, 0), (221, 0), (222, 0), (223, 0), (284, 0), (285, 0), (341, 0), (342, 0), (343, 0), (344, 0), (345, 0), (346, 0), (347, 0), (348, 0), (349, 0), (520, 0), (521, 0), (701, 0), (702, 0), (703, 0), (704, 0), (705, 0), (706, 0), (708, 0), (709, 0), (710, 0)]
def po_X11_gotOnPaper (kp : Nat → Nat) (L : List Nat) (f0 : Nat → va_E) (h0 : Nat) (u1 : Int32) (u2 : Nat) : Option Value → (Nat → va_E) → Prop := fun v f => (∃ r : Int64, v = some (.long r) ∧ (True)) ∧ FM kp L ms_X11_gotOnPaper f0 f
set_option maxHeartbeats 4000000 in
set_option maxRecDepth 100000 in
theorem c_X11_gotOnPaper (l : Launch) (G : va_G) (cI cJ cZ cD cR cT : ClassId) (kp : Nat → Nat) (L : List Nat) (f0 : Nat → va_E) (hTH : TH cI cJ cZ cD cR cT kp L f0) (sz : Nat) (h0 : Nat) (u1 : Int32) (u2 : Nat) (rh0 : RK kp L h0 11) (ru2 : RK kp L u2 9) : Met l yX11_gotOnPaper (Cond.code yX11_gotOnPaper cX11_gotOnPaper 4 (some .long) :: wTab) ({ frames := 7, cells := 0, slots := 0, locals := 191 }) (va_Pc [.ref h0, .int u1, .ref u2] (PreW G (tys6 cI cJ cZ cD cR cT) (va_pl L f0) sz)) (QT (po_X11_gotOnPaper kp L f0 h0 u1 u2) G cI cJ cZ cD cR cT (va_A (va_pl L f0) sz) kp L) 0 0 (va_A (va_pl L f0) sz) := by
  refine metT (by decide) (Nat.le_of_ble_eq_true rfl) hTH ?_
  intro p e s m below meth c A ls E hW hl
  obtain ⟨hx, hb, -, hml, hown, hts, -, -, -⟩ := id E
  have hF : FM kp L ms_X11_gotOnPaper f0 f0 := FM.rf
  have hl : lv_has ls 4 [(0, .ref h0), (1, .int u1), (2, .ref u2)] := hl
  refine lv_aload_n hx hb dX11_gotOnPaper_0 rfl (lv_at hl 0 rfl) ?_
  refine fg_RX11_18 E hW rh0 dX11_gotOnPaper_1 (fun a1 m2 r3 => ?_)
  refine lv_aload_n hx hb dX11_gotOnPaper_4 rfl (lv_at hl 0 rfl) ?_
  refine fg_RX11_12 E hW rh0 dX11_gotOnPaper_5 (fun a4 m5 r6 => ?_)
  refine t_callV (As := [.ref a4]) (rest := []) E hW (c_X0_copyFrom l G cI cJ cZ cD cR cT kp L f0 hW.2.2.2 _ a1 a4 r3 r6) r3 (by decide) rfl wk_X0_copyFrom tw_1285 rfl ⟨Nat.le_of_ble_eq_true rfl, Nat.le_of_ble_eq_true rfl⟩ ⟨rfl, rfl⟩ hl.1 rfl (Nat.le_of_ble_eq_true rfl) dX11_gotOnPaper_8 ⟨Nat.le_of_ble_eq_true rfl, Nat.le_of_ble_eq_true rfl⟩ (fun v7 f8 H locs q9 hW => ?_)
  obtain ⟨rfl, g10⟩ := q9
  have hF := FM.tr hF g10 rfl
  refine lv_aload_n hx hb dX11_gotOnPaper_11 rfl (lv_at hl 2 rfl) ?_
  refine lv_ifnull hx hb dX11_gotOnPaper_12 ?_
  refine lv_aload_n hx hb dX11_gotOnPaper_15 rfl (lv_at hl 0 rfl) ?_
  refine fg_RX11_18 E hW rh0 dX11_gotOnPaper_16 (fun a11 m12 r13 => ?_)
  obtain rfl : a1 = a11 := (((fm_R g10 rh0 rfl).trans m2)).symm.trans m12
  refine fg_RX11_219 E hW r3 dX11_gotOnPaper_19 (fun a14 m15 r16 => ?_)
  refine lv_aload_n hx hb dX11_gotOnPaper_22 rfl (lv_at hl 2 rfl) ?_
  refine t_callV (As := [.ref u2]) (rest := []) E hW (c_X2_add l G cI cJ cZ cD cR cT kp L f8 hW.2.2.2 _ a14 u2 r16 ru2) r16 (by decide) rfl wk_X2_add tw_1050 rfl ⟨Nat.le_of_ble_eq_true rfl, Nat.le_of_ble_eq_true rfl⟩ ⟨rfl, rfl⟩ hl.1 rfl (Nat.le_of_ble_eq_true rfl) dX11_gotOnPaper_23 ⟨Nat.le_of_ble_eq_true rfl, Nat.le_of_ble_eq_true rfl⟩ (fun v17 f18 H locs q19 hW => ?_)
  obtain ⟨⟨x21, rfl, p22⟩, g20⟩ := q19
  have hF := FM.tr hF g20 rfl
  refine lv_pop hx hb dX11_gotOnPaper_26 rfl ?_
  refine lv_iconst (v := 0) hx hb dX11_gotOnPaper_27 (by decide) ?_
  refine lv_istore_n (lv' := [(3, .int 0), (0, .ref h0), (1, .int u1), (2, .ref u2)]) hx hb dX11_gotOnPaper_28 rfl hl (by decide) rfl (fun ls hl => ?_)
  have L1022 : ∀ (n : Nat), ∀ (f1016 : Nat → va_E) (y1020 : Int32) (m1017 : oR (f1016 a1) 4 = a14) (m1018 : oR (f1016 h0) 0 = a4) (m1019 : oR (f1016 h0) 1 = a1) (b1021 : (0 : Int) ≤ y1020.toInt) (hm : (2147483648 : Int) - y1020.toInt ≤ n) (H : Heap) (locs : List Loc) (ls : Array Slot), WS G cI cJ cZ cD cR cT A kp L f1016 s H locs → FM kp L ms_X11_gotOnPaper f0 f1016 → lv_has ls 4 [(3, .int y1020), (0, .ref h0), (1, .int u1), (2, .ref u2)] → W p l e ({ frames := 7, cells := 0, slots := 0, locals := 191 }) s m ([.ref h0, .int u1, .ref u2] : List Value).toArray below meth c H locs 0 0 (MQ below (QT (po_X11_gotOnPaper kp L f0 h0 u1 u2) G cI cJ cZ cD cR cT A kp L) ([.ref h0, .int u1, .ref u2] : List Value).toArray s 0 0 A) (F0 m 29 ls []) := by
    intro n
    induction n with
    | zero =>
      intro f1016 y1020 m1017 m1018 m1019 b1021 hm H locs ls hW hF hl
      have hz := i32_b y1020
      exfalso; omega
    | succ n ih =>
      intro f1016 y1020 m1017 m1018 m1019 b1021 hm H locs ls hW hF hl
      clear p22
      have ih29 := ih
      refine lv_iload_n hx hb dX11_gotOnPaper_29 rfl (lv_at hl 0 rfl) ?_
      refine lv_iload_n hx hb dX11_gotOnPaper_30 rfl (lv_at hl 2 rfl) ?_
      refine q_icmp_ge (tgt := 47) hx hb dX11_gotOnPaper_31 (by decide) rfl rfl (fun c1032 => ?_) (fun c1032 => ?_)
      · refine lv_aload_n hx hb dX11_gotOnPaper_47 rfl (lv_at hl 1 rfl) ?_
        refine fg_RX11_18 E hW rh0 dX11_gotOnPaper_48 (fun a1033 m1034 r1035 => ?_)
        obtain rfl : a1 = a1033 := (m1019).symm.trans m1034
        refine fg_RX11_395 E hW r3 dX11_gotOnPaper_51 (fun y1036 m1037 => ?_)
        exact e_J E hW rfl ⟨⟨_, rfl, trivial⟩, hF⟩ dX11_gotOnPaper_54
      · have hb1038 : y1020.toInt ≤ 2147483646 := by have := i32_b u1; omega
        refine lv_aload_n hx hb dX11_gotOnPaper_34 rfl (lv_at hl 1 rfl) ?_
        refine fg_RX11_18 E hW rh0 dX11_gotOnPaper_35 (fun a1039 m1040 r1041 => ?_)
        obtain rfl : a1 = a1039 := (m1019).symm.trans m1040
        refine t_callV (As := []) (rest := []) E hW (c_X0_passWeek l G cI cJ cZ cD cR cT kp L f1016 hW.2.2.2 _ a1 r3) r3 (by decide) rfl wk_X0_passWeek tw_1114 rfl ⟨Nat.le_of_ble_eq_true rfl, Nat.le_of_ble_eq_true rfl⟩ ⟨rfl, rfl⟩ hl.1 rfl (Nat.le_of_ble_eq_true rfl) dX11_gotOnPaper_38 ⟨Nat.le_of_ble_eq_true rfl, Nat.le_of_ble_eq_true rfl⟩ (fun v1042 f1043 H locs q1044 hW => ?_)
        obtain ⟨rfl, g1045⟩ := q1044
        have hF := FM.tr hF g1045 rfl
        refine q_iinc hx hb dX11_gotOnPaper_41 hl (k := 0) rfl rfl rfl (by omega) (by decide) (fun i1046 ls h1047 hl => ?_)
        have hl : lv_has ls 4 [(3, .int i1046), (0, .ref h0), (1, .int u1), (2, .ref u2)] := hl
        refine lv_goto (tgt := 29) hx hb dX11_gotOnPaper_44 (by decide) ?_
        exact ih29 f1043 i1046 ((fm_R g1045 r3 rfl).trans m1017) ((fm_R g1045 rh0 rfl).trans m1018) ((fm_R g1045 rh0 rfl).trans m1040) (by omega) (by omega) _ _ _ hW hF (lv_sub hl [0, 1, 2, 3] rfl)
  have hk1048 : (0 : Int32).toInt = 0 := rfl
  exact L1022 2147483648 f18 0 ((fm_R g20 r3 rfl).trans m15) ((fm_R g20 rh0 rfl).trans ((fm_R g10 rh0 rfl).trans m5)) ((fm_R g20 rh0 rfl).trans m12) (by decide) (by omega) _ _ _ hW hF (lv_sub hl [0, 1, 2, 3] rfl)
def ms_X11_guard : List (Nat × Nat) := [(10, 7), (11, 15), (708, 0), (709, 0), (710, 0)]
def po_X11_guard (kp : Nat → Nat) (L : List Nat) (f0 : Nat → va_E) (h0 : Nat) (u1 : Int32) (u2 : Int32) (u3 : Int32) : Option Value → (Nat → va_E) → Prop := fun v f => (∃ r : Int32, v = some (.int r) ∧ (True)) ∧ FM kp L ms_X11_guard f0 f
set_option maxHeartbeats 4000000 in
set_option maxRecDepth 100000 in
theorem c_X11_guard (l : Launch) (G : va_G) (cI cJ cZ cD cR cT : ClassId) (kp : Nat → Nat) (L : List Nat) (f0 : Nat → va_E) (hTH : TH cI cJ cZ cD cR cT kp L f0) (sz : Nat) (h0 : Nat) (u1 : Int32) (u2 : Int32) (u3 : Int32) (rh0 : RK kp L h0 11) : Met l yX11_guard (Cond.code yX11_guard cX11_guard 5 (some .int) :: wTab) ({ frames := 2, cells := 0, slots := 0, locals := 63 }) (va_Pc [.ref h0, .int u1, .int u2, .int u3] (PreW G (tys6 cI cJ cZ cD cR cT) (va_pl L f0) sz)) (QT (po_X11_guard kp L f0 h0 u1 u2 u3) G cI cJ cZ cD cR cT (va_A (va_pl L f0) sz) kp L) 0 0 (va_A (va_pl L f0) sz) := by
  refine metT (by decide) (Nat.le_of_ble_eq_true rfl) hTH ?_
  intro p e s m below meth c A ls E hW hl
  obtain ⟨hx, hb, -, hml, hown, hts, -, -, -⟩ := id E
  have hF : FM kp L ms_X11_guard f0 f0 := FM.rf
  have hl : lv_has ls 5 [(0, .ref h0), (1, .int u1), (2, .int u2), (3, .int u3)] := hl
  refine lv_aload_n hx hb dX11_guard_0 rfl (lv_at hl 0 rfl) ?_
  refine fg_RX11_12 E hW rh0 dX11_guard_1 (fun a1 m2 r3 => ?_)
  refine fg_RX11_170 E hW r3 dX11_guard_4 (fun a4 m5 r6 => ?_)
  refine lv_astore (lv' := [(4, .ref a4), (0, .ref h0), (1, .int u1), (2, .int u2), (3, .int u3)]) hx hb dX11_guard_7 hl (by decide) rfl (fun ls hl => ?_)
  refine lv_iload_n hx hb dX11_guard_9 rfl (lv_at hl 3 rfl) ?_
  refine t_callS (As := [.int u2]) (rest := []) E hW (c_X11_isWeek l G cI cJ cZ cD cR cT kp L f0 hW.2.2.2 _ u2) wk_X11_isWeek tw_780 rfl ⟨Nat.le_of_ble_eq_true rfl, Nat.le_of_ble_eq_true rfl⟩ ⟨rfl, rfl⟩ hl.1 rfl (Nat.le_of_ble_eq_true rfl) dX11_guard_10 ⟨Nat.le_of_ble_eq_true rfl, Nat.le_of_ble_eq_true rfl⟩ (fun v7 f8 H locs q9 hW => ?_)
  obtain ⟨⟨x11, rfl, p12⟩, g10⟩ := q9
  have hF := FM.tr hF g10 rfl
  refine q_if_eq (tgt := 28) hx hb dX11_guard_13 (by decide) rfl (fun c13 => ?_) (fun c13 => ?_)
  · have q14 : (u2.toInt < 0 ∨ 399 < u2.toInt) := by omega
    clear p12
    refine lv_aload_n hx hb dX11_guard_28 rfl (lv_at hl 1 rfl) ?_
    refine lv_iconst (v := (-1)) hx hb dX11_guard_29 (by decide) ?_
    refine t_callV (As := [.int (-1)]) (rest := []) E hW (c_X11_refuse l G cI cJ cZ cD cR cT kp L f8 hW.2.2.2 _ h0 (-1) rh0 (by decide)) rh0 (by decide) rfl wk_X11_refuse tw_603 rfl ⟨Nat.le_of_ble_eq_true rfl, Nat.le_of_ble_eq_true rfl⟩ ⟨rfl, rfl⟩ hl.1 rfl (Nat.le_of_ble_eq_true rfl) dX11_guard_30 ⟨Nat.le_of_ble_eq_true rfl, Nat.le_of_ble_eq_true rfl⟩ (fun v15 f16 H locs q17 hW => ?_)
    obtain ⟨⟨x19, rfl, p20⟩, g18⟩ := q17
    have p20 : (-6 : Int) ≤ x19.toInt ∧ x19.toInt ≤ -1 := p20
    have hF := FM.tr hF g18 rfl
    exact e_I E hW rfl ⟨⟨_, rfl, trivial⟩, hF⟩ dX11_guard_33
  · have q21 : 0 ≤ u2.toInt ∧ u2.toInt ≤ 399 := by omega
    clear p12
    refine lv_iload_n hx hb dX11_guard_16 rfl (lv_at hl 4 rfl) ?_
    refine t_callS (As := [.int u3]) (rest := []) E hW (c_X11_isWeek l G cI cJ cZ cD cR cT kp L f8 hW.2.2.2 _ u3) wk_X11_isWeek tw_780 rfl ⟨Nat.le_of_ble_eq_true rfl, Nat.le_of_ble_eq_true rfl⟩ ⟨rfl, rfl⟩ hl.1 rfl (Nat.le_of_ble_eq_true rfl) dX11_guard_17 ⟨Nat.le_of_ble_eq_true rfl, Nat.le_of_ble_eq_true rfl⟩ (fun v22 f23 H locs q24 hW => ?_)
    obtain ⟨⟨x26, rfl, p27⟩, g25⟩ := q24
    have hF := FM.tr hF g25 rfl
    refine q_if_eq (tgt := 28) hx hb dX11_guard_20 (by decide) rfl (fun c28 => ?_) (fun c28 => ?_)
    · have q29 : (u3.toInt < 0 ∨ 399 < u3.toInt) := by omega
      clear p27
      refine lv_aload_n hx hb dX11_guard_28 rfl (lv_at hl 1 rfl) ?_
      refine lv_iconst (v := (-1)) hx hb dX11_guard_29 (by decide) ?_
      refine t_callV (As := [.int (-1)]) (rest := []) E hW (c_X11_refuse l G cI cJ cZ cD cR cT kp L f23 hW.2.2.2 _ h0 (-1) rh0 (by decide)) rh0 (by decide) rfl wk_X11_refuse tw_603 rfl ⟨Nat.le_of_ble_eq_true rfl, Nat.le_of_ble_eq_true rfl⟩ ⟨rfl, rfl⟩ hl.1 rfl (Nat.le_of_ble_eq_true rfl) dX11_guard_30 ⟨Nat.le_of_ble_eq_true rfl, Nat.le_of_ble_eq_true rfl⟩ (fun v30 f31 H locs q32 hW => ?_)
      obtain ⟨⟨x34, rfl, p35⟩, g33⟩ := q32
      have p35 : (-6 : Int) ≤ x34.toInt ∧ x34.toInt ≤ -1 := p35
      have hF := FM.tr hF g33 rfl
      exact e_I E hW rfl ⟨⟨_, rfl, trivial⟩, hF⟩ dX11_guard_33
    · have q36 : 0 ≤ u3.toInt ∧ u3.toInt ≤ 399 := by omega
      clear p27
      refine lv_iload_n hx hb dX11_guard_23 rfl (lv_at hl 3 rfl) ?_
      refine lv_iload_n hx hb dX11_guard_24 rfl (lv_at hl 4 rfl) ?_
      refine q_icmp_le (tgt := 34) hx hb dX11_guard_25 (by decide) rfl rfl (fun c37 => ?_) (fun c37 => ?_)
      · refine lv_aload_n hx hb dX11_guard_34 rfl (lv_at hl 1 rfl) ?_
        refine fg_RX11_12 E hW rh0 dX11_guard_35 (fun a38 m39 r40 => ?_)
        obtain rfl : a1 = a38 := (((fm_R g25 rh0 rfl).trans ((fm_R g10 rh0 rfl).trans m2))).symm.trans m39
        refine fg_RX11_114 E hW r3 dX11_guard_38 (fun a41 m42 r43 => ?_)
        refine lv_iload_n hx hb dX11_guard_41 rfl (lv_at hl 2 rfl) ?_
        refine t_callV (As := [.int u1]) (rest := []) E hW (c_X1_has l G cI cJ cZ cD cR cT kp L f23 hW.2.2.2 _ a41 u1 r43) r43 (by decide) rfl wk_X1_has tw_683 rfl ⟨Nat.le_of_ble_eq_true rfl, Nat.le_of_ble_eq_true rfl⟩ ⟨rfl, rfl⟩ hl.1 rfl (Nat.le_of_ble_eq_true rfl) dX11_guard_42 ⟨Nat.le_of_ble_eq_true rfl, Nat.le_of_ble_eq_true rfl⟩ (fun v44 f45 H locs q46 hW => ?_)
        obtain ⟨⟨x48, rfl, p49⟩, g47⟩ := q46
        have hF := FM.tr hF g47 rfl
        refine q_if_ne (tgt := 55) hx hb dX11_guard_45 (by decide) rfl (fun c50 => ?_) (fun c50 => ?_)
        · have q51 : 0 ≤ u1.toInt ∧ u1.toInt ≤ 39 := by omega
          clear p49
          refine lv_aload hx hb dX11_guard_55 (lv_at hl 0 rfl) ?_
          refine fg_RX11_264 E hW r6 dX11_guard_57 (fun y52 m53 b54 => ?_)
          refine lv_bipush (v := 40) hx hb dX11_guard_60 (by decide) ?_
          refine q_icmp_lt (Y := 40) (tgt := 72) hx hb dX11_guard_62 (by decide) rfl rfl (fun c55 => ?_) (fun c55 => ?_)
          · refine lv_aload hx hb dX11_guard_72 (lv_at hl 0 rfl) ?_
            refine lv_iload_n hx hb dX11_guard_74 rfl (lv_at hl 2 rfl) ?_
            refine lv_iload_n hx hb dX11_guard_75 rfl (lv_at hl 3 rfl) ?_
            refine lv_iload_n hx hb dX11_guard_76 rfl (lv_at hl 4 rfl) ?_
            refine t_callV (As := [.int u1, .int u2, .int u3]) (rest := []) E hW (c_X10_addGuard l G cI cJ cZ cD cR cT kp L f45 hW.2.2.2 _ a4 u1 u2 u3 r6 (by omega) (by omega) (by omega)) r6 (by decide) rfl wk_X10_addGuard tw_1097 rfl ⟨Nat.le_of_ble_eq_true rfl, Nat.le_of_ble_eq_true rfl⟩ ⟨rfl, rfl⟩ hl.1 rfl (Nat.le_of_ble_eq_true rfl) dX11_guard_77 ⟨Nat.le_of_ble_eq_true rfl, Nat.le_of_ble_eq_true rfl⟩ (fun v56 f57 H locs q58 hW => ?_)
            obtain ⟨rfl, g59⟩ := q58
            have hF := FM.tr hF g59 rfl
            refine lv_aload_n hx hb dX11_guard_80 rfl (lv_at hl 1 rfl) ?_
            refine lv_aload hx hb dX11_guard_81 (lv_at hl 0 rfl) ?_
            refine fg_RX11_264 E hW r6 dX11_guard_83 (fun y60 m61 b62 => ?_)
            refine t_callV (As := [.int y60]) (rest := []) E hW (c_X11_accept l G cI cJ cZ cD cR cT kp L f57 hW.2.2.2 _ h0 y60 rh0) rh0 (by decide) rfl wk_X11_accept tw_611 rfl ⟨Nat.le_of_ble_eq_true rfl, Nat.le_of_ble_eq_true rfl⟩ ⟨rfl, rfl⟩ hl.1 rfl (Nat.le_of_ble_eq_true rfl) dX11_guard_86 ⟨Nat.le_of_ble_eq_true rfl, Nat.le_of_ble_eq_true rfl⟩ (fun v63 f64 H locs q65 hW => ?_)
            obtain ⟨⟨x67, rfl, p68⟩, g66⟩ := q65
            clear p68
            have hF := FM.tr hF g66 rfl
            exact e_I E hW rfl ⟨⟨_, rfl, trivial⟩, hF⟩ dX11_guard_89
          · refine lv_aload_n hx hb dX11_guard_65 rfl (lv_at hl 1 rfl) ?_
            refine lv_bipush (v := (-5)) hx hb dX11_guard_66 (by decide) ?_
            refine t_callV (As := [.int (-5)]) (rest := []) E hW (c_X11_refuse l G cI cJ cZ cD cR cT kp L f45 hW.2.2.2 _ h0 (-5) rh0 (by decide)) rh0 (by decide) rfl wk_X11_refuse tw_603 rfl ⟨Nat.le_of_ble_eq_true rfl, Nat.le_of_ble_eq_true rfl⟩ ⟨rfl, rfl⟩ hl.1 rfl (Nat.le_of_ble_eq_true rfl) dX11_guard_68 ⟨Nat.le_of_ble_eq_true rfl, Nat.le_of_ble_eq_true rfl⟩ (fun v69 f70 H locs q71 hW => ?_)
            obtain ⟨⟨x73, rfl, p74⟩, g72⟩ := q71
            have p74 : (-6 : Int) ≤ x73.toInt ∧ x73.toInt ≤ -1 := p74
            have hF := FM.tr hF g72 rfl
            exact e_I E hW rfl ⟨⟨_, rfl, trivial⟩, hF⟩ dX11_guard_71
        · clear p49
          refine lv_aload_n hx hb dX11_guard_48 rfl (lv_at hl 1 rfl) ?_
          refine lv_bipush (v := (-2)) hx hb dX11_guard_49 (by decide) ?_
          refine t_callV (As := [.int (-2)]) (rest := []) E hW (c_X11_refuse l G cI cJ cZ cD cR cT kp L f45 hW.2.2.2 _ h0 (-2) rh0 (by decide)) rh0 (by decide) rfl wk_X11_refuse tw_603 rfl ⟨Nat.le_of_ble_eq_true rfl, Nat.le_of_ble_eq_true rfl⟩ ⟨rfl, rfl⟩ hl.1 rfl (Nat.le_of_ble_eq_true rfl) dX11_guard_51 ⟨Nat.le_of_ble_eq_true rfl, Nat.le_of_ble_eq_true rfl⟩ (fun v75 f76 H locs q77 hW => ?_)
          obtain ⟨⟨x79, rfl, p80⟩, g78⟩ := q77
          have p80 : (-6 : Int) ≤ x79.toInt ∧ x79.toInt ≤ -1 := p80
          have hF := FM.tr hF g78 rfl
          exact e_I E hW rfl ⟨⟨_, rfl, trivial⟩, hF⟩ dX11_guard_54
      · refine lv_aload_n hx hb dX11_guard_28 rfl (lv_at hl 1 rfl) ?_
        refine lv_iconst (v := (-1)) hx hb dX11_guard_29 (by decide) ?_
        refine t_callV (As := [.int (-1)]) (rest := []) E hW (c_X11_refuse l G cI cJ cZ cD cR cT kp L f23 hW.2.2.2 _ h0 (-1) rh0 (by decide)) rh0 (by decide) rfl wk_X11_refuse tw_603 rfl ⟨Nat.le_of_ble_eq_true rfl, Nat.le_of_ble_eq_true rfl⟩ ⟨rfl, rfl⟩ hl.1 rfl (Nat.le_of_ble_eq_true rfl) dX11_guard_30 ⟨Nat.le_of_ble_eq_true rfl, Nat.le_of_ble_eq_true rfl⟩ (fun v81 f82 H locs q83 hW => ?_)
        obtain ⟨⟨x85, rfl, p86⟩, g84⟩ := q83
        have p86 : (-6 : Int) ≤ x85.toInt ∧ x85.toInt ≤ -1 := p86
        have hF := FM.tr hF g84 rfl
        exact e_I E hW rfl ⟨⟨_, rfl, trivial⟩, hF⟩ dX11_guard_33
def ms_X11_heed : List (Nat × Nat) := [(11, 15), (344, 0)]
def po_X11_heed (kp : Nat → Nat) (L : List Nat) (f0 : Nat → va_E) (h0 : Nat) (u1 : Int32) (u2 : Int32) : Option Value → (Nat → va_E) → Prop := fun v f => (∃ r : Int32, v = some (.int r) ∧ (True)) ∧ FM kp L ms_X11_heed f0 f
set_option maxHeartbeats 4000000 in
set_option maxRecDepth 100000 in
theorem c_X11_heed (l : Launch) (G : va_G) (cI cJ cZ cD cR cT : ClassId) (kp : Nat → Nat) (L : List Nat) (f0 : Nat → va_E) (hTH : TH cI cJ cZ cD cR cT kp L f0) (sz : Nat) (h0 : Nat) (u1 : Int32) (u2 : Int32) (rh0 : RK kp L h0 11) : Met l yX11_heed (Cond.code yX11_heed cX11_heed 4 (some .int) :: wTab) ({ frames := 2, cells := 0, slots := 0, locals := 61 }) (va_Pc [.ref h0, .int u1, .int u2] (PreW G (tys6 cI cJ cZ cD cR cT) (va_pl L f0) sz)) (QT (po_X11_heed kp L f0 h0 u1 u2) G cI cJ cZ cD cR cT (va_A (va_pl L f0) sz) kp L) 0 0 (va_A (va_pl L f0) sz) := by
  refine metT (by decide) (Nat.le_of_ble_eq_true rfl) hTH ?_
  intro p e s m below meth c A ls E hW hl
  obtain ⟨hx, hb, -, hml, hown, hts, -, -, -⟩ := id E
  have hF : FM kp L ms_X11_heed f0 f0 := FM.rf
  have hl : lv_has ls 4 [(0, .ref h0), (1, .int u1), (2, .int u2)] := hl
  refine lv_aload_n hx hb dX11_heed_0 rfl (lv_at hl 0 rfl) ?_
  refine fg_RX11_12 E hW rh0 dX11_heed_1 (fun a1 m2 r3 => ?_)
  refine fg_RX11_63 E hW r3 dX11_heed_4 (fun a4 m5 r6 => ?_)
  refine lv_astore_n (lv' := [(3, .ref a4), (0, .ref h0), (1, .int u1), (2, .int u2)]) hx hb dX11_heed_7 rfl hl (by decide) rfl (fun ls hl => ?_)
  refine lv_aload_n hx hb dX11_heed_8 rfl (lv_at hl 0 rfl) ?_
  refine lv_iload_n hx hb dX11_heed_9 rfl (lv_at hl 2 rfl) ?_
  refine t_callV (As := [.int u1]) (rest := []) E hW (c_X4_has l G cI cJ cZ cD cR cT kp L f0 hW.2.2.2 _ a4 u1 r6) r6 (by decide) rfl wk_X4_has tw_619 rfl ⟨Nat.le_of_ble_eq_true rfl, Nat.le_of_ble_eq_true rfl⟩ ⟨rfl, rfl⟩ hl.1 rfl (Nat.le_of_ble_eq_true rfl) dX11_heed_10 ⟨Nat.le_of_ble_eq_true rfl, Nat.le_of_ble_eq_true rfl⟩ (fun v7 f8 H locs q9 hW => ?_)
  obtain ⟨⟨x11, rfl, p12⟩, g10⟩ := q9
  have hF := FM.tr hF g10 rfl
  refine q_if_eq (tgt := 29) hx hb dX11_heed_13 (by decide) rfl (fun c13 => ?_) (fun c13 => ?_)
  · clear p12
    refine lv_aload_n hx hb dX11_heed_29 rfl (lv_at hl 1 rfl) ?_
    refine lv_bipush (v := (-2)) hx hb dX11_heed_30 (by decide) ?_
    refine t_callV (As := [.int (-2)]) (rest := []) E hW (c_X11_refuse l G cI cJ cZ cD cR cT kp L f8 hW.2.2.2 _ h0 (-2) rh0 (by decide)) rh0 (by decide) rfl wk_X11_refuse tw_603 rfl ⟨Nat.le_of_ble_eq_true rfl, Nat.le_of_ble_eq_true rfl⟩ ⟨rfl, rfl⟩ hl.1 rfl (Nat.le_of_ble_eq_true rfl) dX11_heed_32 ⟨Nat.le_of_ble_eq_true rfl, Nat.le_of_ble_eq_true rfl⟩ (fun v14 f15 H locs q16 hW => ?_)
    obtain ⟨⟨x18, rfl, p19⟩, g17⟩ := q16
    have p19 : (-6 : Int) ≤ x18.toInt ∧ x18.toInt ≤ -1 := p19
    have hF := FM.tr hF g17 rfl
    exact e_I E hW rfl ⟨⟨_, rfl, trivial⟩, hF⟩ dX11_heed_35
  · have q20 : 0 ≤ u1.toInt ∧ u1.toInt ≤ 39 := by omega
    clear p12
    refine lv_iload_n hx hb dX11_heed_16 rfl (lv_at hl 3 rfl) ?_
    refine lv_iconst (v := (-1)) hx hb dX11_heed_17 (by decide) ?_
    refine q_icmp_eq (Y := -1) (tgt := 36) hx hb dX11_heed_18 (by decide) rfl rfl (fun c21 => ?_) (fun c21 => ?_)
    · refine lv_iload_n hx hb dX11_heed_36 rfl (lv_at hl 2 rfl) ?_
      refine lv_iload_n hx hb dX11_heed_37 rfl (lv_at hl 3 rfl) ?_
      refine q_icmp_ne (tgt := 48) hx hb dX11_heed_38 (by decide) rfl rfl (fun c22 => ?_) (fun c22 => ?_)
      · refine lv_aload_n hx hb dX11_heed_48 rfl (lv_at hl 0 rfl) ?_
        refine fg_RX11_84 E hW r6 dX11_heed_49 (fun a23 m24 r25 => ?_)
        refine lv_iload_n hx hb dX11_heed_52 rfl (lv_at hl 2 rfl) ?_
        refine lv_iload_n hx hb dX11_heed_53 rfl (lv_at hl 3 rfl) ?_
        refine gs_344 E hW r25 ⟨by omega, by omega⟩ (by omega) dX11_heed_54 (fun f26 H locs e27 n28 g29 hW => ?_)
        have hF := FM.tr hF g29 rfl
        refine lv_aload_n hx hb dX11_heed_55 rfl (lv_at hl 1 rfl) ?_
        refine lv_iconst (v := 0) hx hb dX11_heed_56 (by decide) ?_
        refine t_callV (As := [.int 0]) (rest := []) E hW (c_X11_accept l G cI cJ cZ cD cR cT kp L f26 hW.2.2.2 _ h0 0 rh0) rh0 (by decide) rfl wk_X11_accept tw_611 rfl ⟨Nat.le_of_ble_eq_true rfl, Nat.le_of_ble_eq_true rfl⟩ ⟨rfl, rfl⟩ hl.1 rfl (Nat.le_of_ble_eq_true rfl) dX11_heed_57 ⟨Nat.le_of_ble_eq_true rfl, Nat.le_of_ble_eq_true rfl⟩ (fun v30 f31 H locs q32 hW => ?_)
        obtain ⟨⟨x34, rfl, p35⟩, g33⟩ := q32
        clear p35
        have hF := FM.tr hF g33 rfl
        exact e_I E hW rfl ⟨⟨_, rfl, trivial⟩, hF⟩ dX11_heed_60
      · exfalso; omega
    · refine lv_aload_n hx hb dX11_heed_21 rfl (lv_at hl 0 rfl) ?_
      refine lv_iload_n hx hb dX11_heed_22 rfl (lv_at hl 3 rfl) ?_
      refine t_callV (As := [.int u2]) (rest := []) E hW (c_X4_has l G cI cJ cZ cD cR cT kp L f8 hW.2.2.2 _ a4 u2 r6) r6 (by decide) rfl wk_X4_has tw_619 rfl ⟨Nat.le_of_ble_eq_true rfl, Nat.le_of_ble_eq_true rfl⟩ ⟨rfl, rfl⟩ hl.1 rfl (Nat.le_of_ble_eq_true rfl) dX11_heed_23 ⟨Nat.le_of_ble_eq_true rfl, Nat.le_of_ble_eq_true rfl⟩ (fun v36 f37 H locs q38 hW => ?_)
      obtain ⟨⟨x40, rfl, p41⟩, g39⟩ := q38
      have hF := FM.tr hF g39 rfl
      refine q_if_ne (tgt := 36) hx hb dX11_heed_26 (by decide) rfl (fun c42 => ?_) (fun c42 => ?_)
      · have q43 : 0 ≤ u2.toInt ∧ u2.toInt ≤ 39 := by omega
        clear p41
        refine lv_iload_n hx hb dX11_heed_36 rfl (lv_at hl 2 rfl) ?_
        refine lv_iload_n hx hb dX11_heed_37 rfl (lv_at hl 3 rfl) ?_
        refine q_icmp_ne (tgt := 48) hx hb dX11_heed_38 (by decide) rfl rfl (fun c44 => ?_) (fun c44 => ?_)
        · refine lv_aload_n hx hb dX11_heed_48 rfl (lv_at hl 0 rfl) ?_
          refine fg_RX11_84 E hW r6 dX11_heed_49 (fun a45 m46 r47 => ?_)
          refine lv_iload_n hx hb dX11_heed_52 rfl (lv_at hl 2 rfl) ?_
          refine lv_iload_n hx hb dX11_heed_53 rfl (lv_at hl 3 rfl) ?_
          refine gs_344 E hW r47 ⟨by omega, by omega⟩ (by omega) dX11_heed_54 (fun f48 H locs e49 n50 g51 hW => ?_)
          have hF := FM.tr hF g51 rfl
          refine lv_aload_n hx hb dX11_heed_55 rfl (lv_at hl 1 rfl) ?_
          refine lv_iconst (v := 0) hx hb dX11_heed_56 (by decide) ?_
          refine t_callV (As := [.int 0]) (rest := []) E hW (c_X11_accept l G cI cJ cZ cD cR cT kp L f48 hW.2.2.2 _ h0 0 rh0) rh0 (by decide) rfl wk_X11_accept tw_611 rfl ⟨Nat.le_of_ble_eq_true rfl, Nat.le_of_ble_eq_true rfl⟩ ⟨rfl, rfl⟩ hl.1 rfl (Nat.le_of_ble_eq_true rfl) dX11_heed_57 ⟨Nat.le_of_ble_eq_true rfl, Nat.le_of_ble_eq_true rfl⟩ (fun v52 f53 H locs q54 hW => ?_)
          obtain ⟨⟨x56, rfl, p57⟩, g55⟩ := q54
          clear p57
          have hF := FM.tr hF g55 rfl
          exact e_I E hW rfl ⟨⟨_, rfl, trivial⟩, hF⟩ dX11_heed_60
        · refine lv_aload_n hx hb dX11_heed_41 rfl (lv_at hl 1 rfl) ?_
          refine lv_bipush (v := (-3)) hx hb dX11_heed_42 (by decide) ?_
          refine t_callV (As := [.int (-3)]) (rest := []) E hW (c_X11_refuse l G cI cJ cZ cD cR cT kp L f37 hW.2.2.2 _ h0 (-3) rh0 (by decide)) rh0 (by decide) rfl wk_X11_refuse tw_603 rfl ⟨Nat.le_of_ble_eq_true rfl, Nat.le_of_ble_eq_true rfl⟩ ⟨rfl, rfl⟩ hl.1 rfl (Nat.le_of_ble_eq_true rfl) dX11_heed_44 ⟨Nat.le_of_ble_eq_true rfl, Nat.le_of_ble_eq_true rfl⟩ (fun v58 f59 H locs q60 hW => ?_)
          obtain ⟨⟨x62, rfl, p63⟩, g61⟩ := q60
          have p63 : (-6 : Int) ≤ x62.toInt ∧ x62.toInt ≤ -1 := p63
          have hF := FM.tr hF g61 rfl
          exact e_I E hW rfl ⟨⟨_, rfl, trivial⟩, hF⟩ dX11_heed_47
      · clear p41
        refine lv_aload_n hx hb dX11_heed_29 rfl (lv_at hl 1 rfl) ?_
        refine lv_bipush (v := (-2)) hx hb dX11_heed_30 (by decide) ?_
        refine t_callV (As := [.int (-2)]) (rest := []) E hW (c_X11_refuse l G cI cJ cZ cD cR cT kp L f37 hW.2.2.2 _ h0 (-2) rh0 (by decide)) rh0 (by decide) rfl wk_X11_refuse tw_603 rfl ⟨Nat.le_of_ble_eq_true rfl, Nat.le_of_ble_eq_true rfl⟩ ⟨rfl, rfl⟩ hl.1 rfl (Nat.le_of_ble_eq_true rfl) dX11_heed_32 ⟨Nat.le_of_ble_eq_true rfl, Nat.le_of_ble_eq_true rfl⟩ (fun v64 f65 H locs q66 hW => ?_)
        obtain ⟨⟨x68, rfl, p69⟩, g67⟩ := q66
        have p69 : (-6 : Int) ≤ x68.toInt ∧ x68.toInt ≤ -1 := p69
        have hF := FM.tr hF g67 rfl
        exact e_I E hW rfl ⟨⟨_, rfl, trivial⟩, hF⟩ dX11_heed_35
def ms_X11_holds : List (Nat × Nat) := [(0, 14), (115, 0), (222, 0), (223, 0)]
def po_X11_holds (kp : Nat → Nat) (L : List Nat) (f0 : Nat → va_E) (h0 : Nat) (u1 : Int32) (u2 : Int32) (u3 : Int32) (u4 : Int32) : Option Value → (Nat → va_E) → Prop := fun v f => (∃ r : Int32, v = some (.int r) ∧ ((-1 : Int) ≤ r.toInt ∧ r.toInt ≤ 1)) ∧ FM kp L ms_X11_holds f0 f
set_option maxHeartbeats 4000000 in
set_option maxRecDepth 100000 in
theorem c_X11_holds (l : Launch) (G : va_G) (cI cJ cZ cD cR cT : ClassId) (kp : Nat → Nat) (L : List Nat) (f0 : Nat → va_E) (hTH : TH cI cJ cZ cD cR cT kp L f0) (sz : Nat) (h0 : Nat) (u1 : Int32) (u2 : Int32) (u3 : Int32) (u4 : Int32) (rh0 : RK kp L h0 11) : Met l yX11_holds (Cond.code yX11_holds cX11_holds 5 (some .int) :: wTab) ({ frames := 5, cells := 0, slots := 0, locals := 143 }) (va_Pc [.ref h0, .int u1, .int u2, .int u3, .int u4] (PreW G (tys6 cI cJ cZ cD cR cT) (va_pl L f0) sz)) (QT (po_X11_holds kp L f0 h0 u1 u2 u3 u4) G cI cJ cZ cD cR cT (va_A (va_pl L f0) sz) kp L) 0 0 (va_A (va_pl L f0) sz) := by
  refine metT (by decide) (Nat.le_of_ble_eq_true rfl) hTH ?_
  intro p e s m below meth c A ls E hW hl
  obtain ⟨hx, hb, -, hml, hown, hts, -, -, -⟩ := id E
  have hF : FM kp L ms_X11_holds f0 f0 := FM.rf
  have hl : lv_has ls 5 [(0, .ref h0), (1, .int u1), (2, .int u2), (3, .int u3), (4, .int u4)] := hl
  refine lv_aload_n hx hb dX11_holds_0 rfl (lv_at hl 0 rfl) ?_
  refine fg_RX11_12 E hW rh0 dX11_holds_1 (fun a1 m2 r3 => ?_)
  refine fg_RX11_219 E hW r3 dX11_holds_4 (fun a4 m5 r6 => ?_)
  refine lv_iload_n hx hb dX11_holds_7 rfl (lv_at hl 1 rfl) ?_
  refine lv_iload_n hx hb dX11_holds_8 rfl (lv_at hl 2 rfl) ?_
  refine t_callV (As := [.int u1, .int u2]) (rest := []) E hW (c_X2_has l G cI cJ cZ cD cR cT kp L f0 hW.2.2.2 _ a4 u1 u2 r6) r6 (by decide) rfl wk_X2_has tw_1062 rfl ⟨Nat.le_of_ble_eq_true rfl, Nat.le_of_ble_eq_true rfl⟩ ⟨rfl, rfl⟩ hl.1 rfl (Nat.le_of_ble_eq_true rfl) dX11_holds_9 ⟨Nat.le_of_ble_eq_true rfl, Nat.le_of_ble_eq_true rfl⟩ (fun v7 f8 H locs q9 hW => ?_)
  obtain ⟨⟨x12, rfl, p13⟩, g10, h11⟩ := q9
  have hF := FM.tr hF g10 rfl
  refine q_if_eq (tgt := 55) hx hb dX11_holds_12 (by decide) rfl (fun c14 => ?_) (fun c14 => ?_)
  · clear p13
    refine lv_iconst (v := (-1)) hx hb dX11_holds_55 (by decide) ?_
    exact e_I E hW rfl ⟨⟨_, rfl, (by have hk : ((-1) : Int32).toInt = -1 := rfl; first | decide | omega)⟩, hF⟩ dX11_holds_56
  · have q15 : 0 ≤ u1.toInt ∧ u1.toInt ≤ 19 ∧ 0 ≤ u2.toInt ∧ u2.toInt ≤ 11 ∧ x12.toInt = 1 := by omega
    clear p13
    refine lv_iload_n hx hb dX11_holds_15 rfl (lv_at hl 3 rfl) ?_
    refine lv_iconst (v := (-1)) hx hb dX11_holds_16 (by decide) ?_
    refine q_icmp_eq (Y := -1) (tgt := 34) hx hb dX11_holds_17 (by decide) rfl rfl (fun c16 => ?_) (fun c16 => ?_)
    · refine lv_iload hx hb dX11_holds_34 (lv_at hl 4 rfl) ?_
      refine lv_iconst (v := (-1)) hx hb dX11_holds_36 (by decide) ?_
      refine q_icmp_eq (Y := -1) (tgt := 57) hx hb dX11_holds_37 (by decide) rfl rfl (fun c17 => ?_) (fun c17 => ?_)
      · refine lv_aload_n hx hb dX11_holds_57 rfl (lv_at hl 0 rfl) ?_
        refine fg_RX11_12 E hW rh0 dX11_holds_58 (fun a18 m19 r20 => ?_)
        obtain rfl : a1 = a18 := (((fm_R g10 rh0 rfl).trans m2)).symm.trans m19
        refine t_callV (As := []) (rest := []) E hW (c_X0_lookAtNow l G cI cJ cZ cD cR cT kp L f8 hW.2.2.2 _ a1 r3) r3 (by decide) rfl wk_X0_lookAtNow tw_687 rfl ⟨Nat.le_of_ble_eq_true rfl, Nat.le_of_ble_eq_true rfl⟩ ⟨rfl, rfl⟩ hl.1 rfl (Nat.le_of_ble_eq_true rfl) dX11_holds_61 ⟨Nat.le_of_ble_eq_true rfl, Nat.le_of_ble_eq_true rfl⟩ (fun v21 f22 H locs q23 hW => ?_)
        obtain ⟨rfl, g24⟩ := q23
        have hF := FM.tr hF g24 rfl
        refine lv_aload_n hx hb dX11_holds_64 rfl (lv_at hl 0 rfl) ?_
        refine fg_RX11_12 E hW rh0 dX11_holds_65 (fun a25 m26 r27 => ?_)
        obtain rfl : a1 = a25 := (((fm_R g24 rh0 rfl).trans m19)).symm.trans m26
        refine lv_iload_n hx hb dX11_holds_68 rfl (lv_at hl 1 rfl) ?_
        refine lv_iload_n hx hb dX11_holds_69 rfl (lv_at hl 2 rfl) ?_
        refine lv_iload_n hx hb dX11_holds_70 rfl (lv_at hl 3 rfl) ?_
        refine lv_iload hx hb dX11_holds_71 (lv_at hl 4 rfl) ?_
        refine t_callV (As := [.int u1, .int u2, .int u3, .int u4]) (rest := []) E hW (c_X0_clauseHolds l G cI cJ cZ cD cR cT kp L f22 hW.2.2.2 _ a1 u1 u2 u3 u4 r3 (by omega) (by omega) (by omega) (by omega) (holds_tr hTH hF r3 rfl rfl rfl rfl m5 (h11 (one_of (by omega))))) r3 (by decide) rfl wk_X0_clauseHolds tw_1072 rfl ⟨Nat.le_of_ble_eq_true rfl, Nat.le_of_ble_eq_true rfl⟩ ⟨rfl, rfl⟩ hl.1 rfl (Nat.le_of_ble_eq_true rfl) dX11_holds_73 ⟨Nat.le_of_ble_eq_true rfl, Nat.le_of_ble_eq_true rfl⟩ (fun v28 f29 H locs q30 hW => ?_)
        obtain ⟨⟨x32, rfl, p33⟩, g31⟩ := q30
        have hF := FM.tr hF g31 rfl
        have J36 : ∀ (y34 : Int32) (b35 : (0 : Int) ≤ y34.toInt ∧ y34.toInt ≤ 1) (H : Heap) (locs : List Loc) (ls : Array Slot), WS G cI cJ cZ cD cR cT A kp L f29 s H locs → FM kp L ms_X11_holds f0 f29 → lv_has ls 5 [(0, .ref h0), (1, .int u1), (2, .int u2), (3, .int u3), (4, .int u4)] → W p l e ({ frames := 5, cells := 0, slots := 0, locals := 143 }) s m ([.ref h0, .int u1, .int u2, .int u3, .int u4] : List Value).toArray below meth c H locs 0 0 (MQ below (QT (po_X11_holds kp L f0 h0 u1 u2 u3 u4) G cI cJ cZ cD cR cT A kp L) ([.ref h0, .int u1, .int u2, .int u3, .int u4] : List Value).toArray s 0 0 A) (F0 m 84 ls [.int y34]) := by
          intro y34 b35 H locs ls hW hF hl
          clear p33
          exact e_I E hW rfl ⟨⟨_, rfl, (by first | omega | trivial)⟩, hF⟩ dX11_holds_84
        refine q_if_eq (tgt := 83) hx hb dX11_holds_76 (by decide) rfl (fun c37 => ?_) (fun c37 => ?_)
        · refine lv_iconst (v := 0) hx hb dX11_holds_83 (by decide) ?_
          exact J36 0 (by decide) _ _ _ hW hF (lv_sub hl [0, 1, 2, 3, 4] rfl)
        · refine lv_iconst (v := 1) hx hb dX11_holds_79 (by decide) ?_
          refine lv_goto (tgt := 84) hx hb dX11_holds_80 (by decide) ?_
          exact J36 1 (by decide) _ _ _ hW hF (lv_sub hl [0, 1, 2, 3, 4] rfl)
      · refine lv_aload_n hx hb dX11_holds_40 rfl (lv_at hl 0 rfl) ?_
        refine fg_RX11_12 E hW rh0 dX11_holds_41 (fun a38 m39 r40 => ?_)
        obtain rfl : a1 = a38 := (((fm_R g10 rh0 rfl).trans m2)).symm.trans m39
        refine fg_RX11_114 E hW r3 dX11_holds_44 (fun a41 m42 r43 => ?_)
        refine lv_iload hx hb dX11_holds_47 (lv_at hl 4 rfl) ?_
        refine t_callV (As := [.int u4]) (rest := []) E hW (c_X1_has l G cI cJ cZ cD cR cT kp L f8 hW.2.2.2 _ a41 u4 r43) r43 (by decide) rfl wk_X1_has tw_683 rfl ⟨Nat.le_of_ble_eq_true rfl, Nat.le_of_ble_eq_true rfl⟩ ⟨rfl, rfl⟩ hl.1 rfl (Nat.le_of_ble_eq_true rfl) dX11_holds_49 ⟨Nat.le_of_ble_eq_true rfl, Nat.le_of_ble_eq_true rfl⟩ (fun v44 f45 H locs q46 hW => ?_)
        obtain ⟨⟨x48, rfl, p49⟩, g47⟩ := q46
        have hF := FM.tr hF g47 rfl
        refine q_if_ne (tgt := 57) hx hb dX11_holds_52 (by decide) rfl (fun c50 => ?_) (fun c50 => ?_)
        · have q51 : 0 ≤ u4.toInt ∧ u4.toInt ≤ 39 := by omega
          clear p49
          refine lv_aload_n hx hb dX11_holds_57 rfl (lv_at hl 0 rfl) ?_
          refine fg_RX11_12 E hW rh0 dX11_holds_58 (fun a52 m53 r54 => ?_)
          obtain rfl : a1 = a52 := (((fm_R g47 rh0 rfl).trans m39)).symm.trans m53
          refine t_callV (As := []) (rest := []) E hW (c_X0_lookAtNow l G cI cJ cZ cD cR cT kp L f45 hW.2.2.2 _ a1 r3) r3 (by decide) rfl wk_X0_lookAtNow tw_687 rfl ⟨Nat.le_of_ble_eq_true rfl, Nat.le_of_ble_eq_true rfl⟩ ⟨rfl, rfl⟩ hl.1 rfl (Nat.le_of_ble_eq_true rfl) dX11_holds_61 ⟨Nat.le_of_ble_eq_true rfl, Nat.le_of_ble_eq_true rfl⟩ (fun v55 f56 H locs q57 hW => ?_)
          obtain ⟨rfl, g58⟩ := q57
          have hF := FM.tr hF g58 rfl
          refine lv_aload_n hx hb dX11_holds_64 rfl (lv_at hl 0 rfl) ?_
          refine fg_RX11_12 E hW rh0 dX11_holds_65 (fun a59 m60 r61 => ?_)
          obtain rfl : a1 = a59 := (((fm_R g58 rh0 rfl).trans m53)).symm.trans m60
          refine lv_iload_n hx hb dX11_holds_68 rfl (lv_at hl 1 rfl) ?_
          refine lv_iload_n hx hb dX11_holds_69 rfl (lv_at hl 2 rfl) ?_
          refine lv_iload_n hx hb dX11_holds_70 rfl (lv_at hl 3 rfl) ?_
          refine lv_iload hx hb dX11_holds_71 (lv_at hl 4 rfl) ?_
          refine t_callV (As := [.int u1, .int u2, .int u3, .int u4]) (rest := []) E hW (c_X0_clauseHolds l G cI cJ cZ cD cR cT kp L f56 hW.2.2.2 _ a1 u1 u2 u3 u4 r3 (by omega) (by omega) (by omega) (by omega) (holds_tr hTH hF r3 rfl rfl rfl rfl m5 (h11 (one_of (by omega))))) r3 (by decide) rfl wk_X0_clauseHolds tw_1072 rfl ⟨Nat.le_of_ble_eq_true rfl, Nat.le_of_ble_eq_true rfl⟩ ⟨rfl, rfl⟩ hl.1 rfl (Nat.le_of_ble_eq_true rfl) dX11_holds_73 ⟨Nat.le_of_ble_eq_true rfl, Nat.le_of_ble_eq_true rfl⟩ (fun v62 f63 H locs q64 hW => ?_)
          obtain ⟨⟨x66, rfl, p67⟩, g65⟩ := q64
          have hF := FM.tr hF g65 rfl
          have J70 : ∀ (y68 : Int32) (b69 : (0 : Int) ≤ y68.toInt ∧ y68.toInt ≤ 1) (H : Heap) (locs : List Loc) (ls : Array Slot), WS G cI cJ cZ cD cR cT A kp L f63 s H locs → FM kp L ms_X11_holds f0 f63 → lv_has ls 5 [(0, .ref h0), (1, .int u1), (2, .int u2), (3, .int u3), (4, .int u4)] → W p l e ({ frames := 5, cells := 0, slots := 0, locals := 143 }) s m ([.ref h0, .int u1, .int u2, .int u3, .int u4] : List Value).toArray below meth c H locs 0 0 (MQ below (QT (po_X11_holds kp L f0 h0 u1 u2 u3 u4) G cI cJ cZ cD cR cT A kp L) ([.ref h0, .int u1, .int u2, .int u3, .int u4] : List Value).toArray s 0 0 A) (F0 m 84 ls [.int y68]) := by
            intro y68 b69 H locs ls hW hF hl
            clear c50 p67
            exact e_I E hW rfl ⟨⟨_, rfl, (by first | omega | trivial)⟩, hF⟩ dX11_holds_84
          refine q_if_eq (tgt := 83) hx hb dX11_holds_76 (by decide) rfl (fun c71 => ?_) (fun c71 => ?_)
          · refine lv_iconst (v := 0) hx hb dX11_holds_83 (by decide) ?_
            exact J70 0 (by decide) _ _ _ hW hF (lv_sub hl [0, 1, 2, 3, 4] rfl)
          · refine lv_iconst (v := 1) hx hb dX11_holds_79 (by decide) ?_
            refine lv_goto (tgt := 84) hx hb dX11_holds_80 (by decide) ?_
            exact J70 1 (by decide) _ _ _ hW hF (lv_sub hl [0, 1, 2, 3, 4] rfl)
        · clear p49
          refine lv_iconst (v := (-1)) hx hb dX11_holds_55 (by decide) ?_
          exact e_I E hW rfl ⟨⟨_, rfl, (by have hk : ((-1) : Int32).toInt = -1 := rfl; first | decide | omega)⟩, hF⟩ dX11_holds_56
    · refine lv_aload_n hx hb dX11_holds_20 rfl (lv_at hl 0 rfl) ?_
      refine fg_RX11_12 E hW rh0 dX11_holds_21 (fun a72 m73 r74 => ?_)
      obtain rfl : a1 = a72 := (((fm_R g10 rh0 rfl).trans m2)).symm.trans m73
      refine fg_RX11_63 E hW r3 dX11_holds_24 (fun a75 m76 r77 => ?_)
      refine lv_iload_n hx hb dX11_holds_27 rfl (lv_at hl 3 rfl) ?_
      refine t_callV (As := [.int u3]) (rest := []) E hW (c_X4_has l G cI cJ cZ cD cR cT kp L f8 hW.2.2.2 _ a75 u3 r77) r77 (by decide) rfl wk_X4_has tw_619 rfl ⟨Nat.le_of_ble_eq_true rfl, Nat.le_of_ble_eq_true rfl⟩ ⟨rfl, rfl⟩ hl.1 rfl (Nat.le_of_ble_eq_true rfl) dX11_holds_28 ⟨Nat.le_of_ble_eq_true rfl, Nat.le_of_ble_eq_true rfl⟩ (fun v78 f79 H locs q80 hW => ?_)
      obtain ⟨⟨x82, rfl, p83⟩, g81⟩ := q80
      have hF := FM.tr hF g81 rfl
      refine q_if_eq (tgt := 55) hx hb dX11_holds_31 (by decide) rfl (fun c84 => ?_) (fun c84 => ?_)
      · clear p83
        refine lv_iconst (v := (-1)) hx hb dX11_holds_55 (by decide) ?_
        exact e_I E hW rfl ⟨⟨_, rfl, (by have hk : ((-1) : Int32).toInt = -1 := rfl; first | decide | omega)⟩, hF⟩ dX11_holds_56
      · have q85 : 0 ≤ u3.toInt ∧ u3.toInt ≤ 39 := by omega
        clear p83
        refine lv_iload hx hb dX11_holds_34 (lv_at hl 4 rfl) ?_
        refine lv_iconst (v := (-1)) hx hb dX11_holds_36 (by decide) ?_
        refine q_icmp_eq (Y := -1) (tgt := 57) hx hb dX11_holds_37 (by decide) rfl rfl (fun c86 => ?_) (fun c86 => ?_)
        · refine lv_aload_n hx hb dX11_holds_57 rfl (lv_at hl 0 rfl) ?_
          refine fg_RX11_12 E hW rh0 dX11_holds_58 (fun a87 m88 r89 => ?_)
          obtain rfl : a1 = a87 := (((fm_R g81 rh0 rfl).trans m73)).symm.trans m88
          refine t_callV (As := []) (rest := []) E hW (c_X0_lookAtNow l G cI cJ cZ cD cR cT kp L f79 hW.2.2.2 _ a1 r3) r3 (by decide) rfl wk_X0_lookAtNow tw_687 rfl ⟨Nat.le_of_ble_eq_true rfl, Nat.le_of_ble_eq_true rfl⟩ ⟨rfl, rfl⟩ hl.1 rfl (Nat.le_of_ble_eq_true rfl) dX11_holds_61 ⟨Nat.le_of_ble_eq_true rfl, Nat.le_of_ble_eq_true rfl⟩ (fun v90 f91 H locs q92 hW => ?_)
          obtain ⟨rfl, g93⟩ := q92
          have hF := FM.tr hF g93 rfl
          refine lv_aload_n hx hb dX11_holds_64 rfl (lv_at hl 0 rfl) ?_
          refine fg_RX11_12 E hW rh0 dX11_holds_65 (fun a94 m95 r96 => ?_)
          obtain rfl : a1 = a94 := (((fm_R g93 rh0 rfl).trans m88)).symm.trans m95
          refine lv_iload_n hx hb dX11_holds_68 rfl (lv_at hl 1 rfl) ?_
          refine lv_iload_n hx hb dX11_holds_69 rfl (lv_at hl 2 rfl) ?_
          refine lv_iload_n hx hb dX11_holds_70 rfl (lv_at hl 3 rfl) ?_
          refine lv_iload hx hb dX11_holds_71 (lv_at hl 4 rfl) ?_
          refine t_callV (As := [.int u1, .int u2, .int u3, .int u4]) (rest := []) E hW (c_X0_clauseHolds l G cI cJ cZ cD cR cT kp L f91 hW.2.2.2 _ a1 u1 u2 u3 u4 r3 (by omega) (by omega) (by omega) (by omega) (holds_tr hTH hF r3 rfl rfl rfl rfl m5 (h11 (one_of (by omega))))) r3 (by decide) rfl wk_X0_clauseHolds tw_1072 rfl ⟨Nat.le_of_ble_eq_true rfl, Nat.le_of_ble_eq_true rfl⟩ ⟨rfl, rfl⟩ hl.1 rfl (Nat.le_of_ble_eq_true rfl) dX11_holds_73 ⟨Nat.le_of_ble_eq_true rfl, Nat.le_of_ble_eq_true rfl⟩ (fun v97 f98 H locs q99 hW => ?_)
          obtain ⟨⟨x101, rfl, p102⟩, g100⟩ := q99
          have hF := FM.tr hF g100 rfl
          have J105 : ∀ (y103 : Int32) (b104 : (0 : Int) ≤ y103.toInt ∧ y103.toInt ≤ 1) (H : Heap) (locs : List Loc) (ls : Array Slot), WS G cI cJ cZ cD cR cT A kp L f98 s H locs → FM kp L ms_X11_holds f0 f98 → lv_has ls 5 [(0, .ref h0), (1, .int u1), (2, .int u2), (3, .int u3), (4, .int u4)] → W p l e ({ frames := 5, cells := 0, slots := 0, locals := 143 }) s m ([.ref h0, .int u1, .int u2, .int u3, .int u4] : List Value).toArray below meth c H locs 0 0 (MQ below (QT (po_X11_holds kp L f0 h0 u1 u2 u3 u4) G cI cJ cZ cD cR cT A kp L) ([.ref h0, .int u1, .int u2, .int u3, .int u4] : List Value).toArray s 0 0 A) (F0 m 84 ls [.int y103]) := by
            intro y103 b104 H locs ls hW hF hl
            clear c84 p102
            exact e_I E hW rfl ⟨⟨_, rfl, (by first | omega | trivial)⟩, hF⟩ dX11_holds_84
          refine q_if_eq (tgt := 83) hx hb dX11_holds_76 (by decide) rfl (fun c106 => ?_) (fun c106 => ?_)
          · refine lv_iconst (v := 0) hx hb dX11_holds_83 (by decide) ?_
            exact J105 0 (by decide) _ _ _ hW hF (lv_sub hl [0, 1, 2, 3, 4] rfl)
          · refine lv_iconst (v := 1) hx hb dX11_holds_79 (by decide) ?_
            refine lv_goto (tgt := 84) hx hb dX11_holds_80 (by decide) ?_
            exact J105 1 (by decide) _ _ _ hW hF (lv_sub hl [0, 1, 2, 3, 4] rfl)
        · refine lv_aload_n hx hb dX11_holds_40 rfl (lv_at hl 0 rfl) ?_
          refine fg_RX11_12 E hW rh0 dX11_holds_41 (fun a107 m108 r109 => ?_)
          obtain rfl : a1 = a107 := (((fm_R g81 rh0 rfl).trans m73)).symm.trans m108
          refine fg_RX11_114 E hW r3 dX11_holds_44 (fun a110 m111 r112 => ?_)
          refine lv_iload hx hb dX11_holds_47 (lv_at hl 4 rfl) ?_
          refine t_callV (As := [.int u4]) (rest := []) E hW (c_X1_has l G cI cJ cZ cD cR cT kp L f79 hW.2.2.2 _ a110 u4 r112) r112 (by decide) rfl wk_X1_has tw_683 rfl ⟨Nat.le_of_ble_eq_true rfl, Nat.le_of_ble_eq_true rfl⟩ ⟨rfl, rfl⟩ hl.1 rfl (Nat.le_of_ble_eq_true rfl) dX11_holds_49 ⟨Nat.le_of_ble_eq_true rfl, Nat.le_of_ble_eq_true rfl⟩ (fun v113 f114 H locs q115 hW => ?_)
          obtain ⟨⟨x117, rfl, p118⟩, g116⟩ := q115
          have hF := FM.tr hF g116 rfl
          refine q_if_ne (tgt := 57) hx hb dX11_holds_52 (by decide) rfl (fun c119 => ?_) (fun c119 => ?_)
          · have q120 : 0 ≤ u4.toInt ∧ u4.toInt ≤ 39 := by omega
            clear p118
            refine lv_aload_n hx hb dX11_holds_57 rfl (lv_at hl 0 rfl) ?_
            refine fg_RX11_12 E hW rh0 dX11_holds_58 (fun a121 m122 r123 => ?_)
            obtain rfl : a1 = a121 := (((fm_R g116 rh0 rfl).trans m108)).symm.trans m122
            refine t_callV (As := []) (rest := []) E hW (c_X0_lookAtNow l G cI cJ cZ cD cR cT kp L f114 hW.2.2.2 _ a1 r3) r3 (by decide) rfl wk_X0_lookAtNow tw_687 rfl ⟨Nat.le_of_ble_eq_true rfl, Nat.le_of_ble_eq_true rfl⟩ ⟨rfl, rfl⟩ hl.1 rfl (Nat.le_of_ble_eq_true rfl) dX11_holds_61 ⟨Nat.le_of_ble_eq_true rfl, Nat.le_of_ble_eq_true rfl⟩ (fun v124 f125 H locs q126 hW => ?_)
            obtain ⟨rfl, g127⟩ := q126
            have hF := FM.tr hF g127 rfl
            refine lv_aload_n hx hb dX11_holds_64 rfl (lv_at hl 0 rfl) ?_
            refine fg_RX11_12 E hW rh0 dX11_holds_65 (fun a128 m129 r130 => ?_)
            obtain rfl : a1 = a128 := (((fm_R g127 rh0 rfl).trans m122)).symm.trans m129
            refine lv_iload_n hx hb dX11_holds_68 rfl (lv_at hl 1 rfl) ?_
            refine lv_iload_n hx hb dX11_holds_69 rfl (lv_at hl 2 rfl) ?_
            refine lv_iload_n hx hb dX11_holds_70 rfl (lv_at hl 3 rfl) ?_
            refine lv_iload hx hb dX11_holds_71 (lv_at hl 4 rfl) ?_
            refine t_callV (As := [.int u1, .int u2, .int u3, .int u4]) (rest := []) E hW (c_X0_clauseHolds l G cI cJ cZ cD cR cT kp L f125 hW.2.2.2 _ a1 u1 u2 u3 u4 r3 (by omega) (by omega) (by omega) (by omega) (holds_tr hTH hF r3 rfl rfl rfl rfl m5 (h11 (one_of (by omega))))) r3 (by decide) rfl wk_X0_clauseHolds tw_1072 rfl ⟨Nat.le_of_ble_eq_true rfl, Nat.le_of_ble_eq_true rfl⟩ ⟨rfl, rfl⟩ hl.1 rfl (Nat.le_of_ble_eq_true rfl) dX11_holds_73 ⟨Nat.le_of_ble_eq_true rfl, Nat.le_of_ble_eq_true rfl⟩ (fun v131 f132 H locs q133 hW => ?_)
            obtain ⟨⟨x135, rfl, p136⟩, g134⟩ := q133
            have hF := FM.tr hF g134 rfl
            have J139 : ∀ (y137 : Int32) (b138 : (0 : Int) ≤ y137.toInt ∧ y137.toInt ≤ 1) (H : Heap) (locs : List Loc) (ls : Array Slot), WS G cI cJ cZ cD cR cT A kp L f132 s H locs → FM kp L ms_X11_holds f0 f132 → lv_has ls 5 [(0, .ref h0), (1, .int u1), (2, .int u2), (3, .int u3), (4, .int u4)] → W p l e ({ frames := 5, cells := 0, slots := 0, locals := 143 }) s m ([.ref h0, .int u1, .int u2, .int u3, .int u4] : List Value).toArray below meth c H locs 0 0 (MQ below (QT (po_X11_holds kp L f0 h0 u1 u2 u3 u4) G cI cJ cZ cD cR cT A kp L) ([.ref h0, .int u1, .int u2, .int u3, .int u4] : List Value).toArray s 0 0 A) (F0 m 84 ls [.int y137]) := by
              intro y137 b138 H locs ls hW hF hl
              clear c84 c119 p136
              exact e_I E hW rfl ⟨⟨_, rfl, (by first | omega | trivial)⟩, hF⟩ dX11_holds_84
            refine q_if_eq (tgt := 83) hx hb dX11_holds_76 (by decide) rfl (fun c140 => ?_) (fun c140 => ?_)
            · refine lv_iconst (v := 0) hx hb dX11_holds_83 (by decide) ?_
              exact J139 0 (by decide) _ _ _ hW hF (lv_sub hl [0, 1, 2, 3, 4] rfl)
            · refine lv_iconst (v := 1) hx hb dX11_holds_79 (by decide) ?_
              refine lv_goto (tgt := 84) hx hb dX11_holds_80 (by decide) ?_
              exact J139 1 (by decide) _ _ _ hW hF (lv_sub hl [0, 1, 2, 3, 4] rfl)
          · clear p118
            refine lv_iconst (v := (-1)) hx hb dX11_holds_55 (by decide) ?_
            exact e_I E hW rfl ⟨⟨_, rfl, (by have hk : ((-1) : Int32).toInt = -1 := rfl; first | decide | omega)⟩, hF⟩ dX11_holds_56
def ms_X11_image : List (Nat × Nat) := [(0, 6), (0, 9), (0, 12), (0, 13), (1, 0), (1, 8), (1, 12), (1, 13), (1, 14), (2, 0), (3, 0), (3, 1), (3, 2), (3, 3), (4, 0), (10, 0), (10, 7), (11, 4), (11, 5), (11, 15), (108, 0), (161, 0), (162, 0), (163, 0), (164, 0), (165, 0), (166, 0), (167, 0), (169, 0), (170, 0), (171, 0), (221, 0), (284, 0), (285, 0), (341, 0), (342, 0), (343, 0), (344, 0), (345, 0), (346, 0), (347, 0), (348, 0), (520, 0), (521, 0), (701, 0), (702, 0), (703, 0), (704, 0), (705, 0), (706, 0), (708, 0), (709, 0), (710, 0)]
def po_X11_image (kp : Nat → Nat) (L : List Nat) (f0 : Nat → va_E) (h0 : Nat) (u1 : Int32) : Option Value → (Nat → va_E) → Prop := fun v f => (∃ r : Int32, v = some (.int r) ∧ (True)) ∧ FM kp L ms_X11_image f0 f
set_option maxHeartbeats 4000000 in
set_option maxRecDepth 100000 in
theorem c_X11_image (l : Launch) (G : va_G) (cI cJ cZ cD cR cT : ClassId) (kp : Nat → Nat) (L : List Nat) (f0 : Nat → va_E) (hTH : TH cI cJ cZ cD cR cT kp L f0) (sz : Nat) (h0 : Nat) (u1 : Int32) (rh0 : RK kp L h0 11) : Met l yX11_image (Cond.code yX11_image cX11_image 2 (some .int) :: wTab) ({ frames := 3, cells := 0, slots := 0, locals := 103 }) (va_Pc [.ref h0, .int u1] (PreW G (tys6 cI cJ cZ cD cR cT) (va_pl L f0) sz)) (QT (po_X11_image kp L f0 h0 u1) G cI cJ cZ cD cR cT (va_A (va_pl L f0) sz) kp L) 0 0 (va_A (va_pl L f0) sz) := by
  refine metT (by decide) (Nat.le_of_ble_eq_true rfl) hTH ?_
  intro p e s m below meth c A ls E hW hl
  obtain ⟨hx, hb, -, hml, hown, hts, -, -, -⟩ := id E
  have hF : FM kp L ms_X11_image f0 f0 := FM.rf
  have hl : lv_has ls 2 [(0, .ref h0), (1, .int u1)] := hl
  refine lv_iload_n hx hb dX11_image_0 rfl (lv_at hl 1 rfl) ?_
  refine lv_iconst (v := 0) hx hb dX11_image_1 (by decide) ?_
  refine lv_iconst (v := 1) hx hb dX11_image_2 (by decide) ?_
  refine t_callS (As := [.int u1, .int 0, .int 1]) (rest := []) E hW (c_X11_within l G cI cJ cZ cD cR cT kp L f0 hW.2.2.2 _ u1 0 1 (by decide)) wk_X11_within tw_599 rfl ⟨Nat.le_of_ble_eq_true rfl, Nat.le_of_ble_eq_true rfl⟩ ⟨rfl, rfl⟩ hl.1 rfl (Nat.le_of_ble_eq_true rfl) dX11_image_3 ⟨Nat.le_of_ble_eq_true rfl, Nat.le_of_ble_eq_true rfl⟩ (fun v1 f2 H locs q3 hW => ?_)
  obtain ⟨⟨x5, rfl, p6⟩, g4⟩ := q3
  have p6 : (x5.toInt = 1 ∧ 0 ≤ u1.toInt ∧ u1.toInt ≤ 1) ∨ (x5.toInt = 0 ∧ (u1.toInt < 0 ∨ 1 < u1.toInt)) := p6
  have hF := FM.tr hF g4 rfl
  refine q_if_ne (tgt := 15) hx hb dX11_image_6 (by decide) rfl (fun c7 => ?_) (fun c7 => ?_)
  · have q8 : 0 ≤ u1.toInt ∧ u1.toInt ≤ 1 := by omega
    clear p6
    refine lv_iload_n hx hb dX11_image_15 rfl (lv_at hl 1 rfl) ?_
    have J38 : ∀ (f37 : Nat → va_E) (H : Heap) (locs : List Loc) (ls : Array Slot), WS G cI cJ cZ cD cR cT A kp L f37 s H locs → FM kp L ms_X11_image f0 f37 → lv_has ls 2 [(0, .ref h0), (1, .int u1)] → W p l e ({ frames := 3, cells := 0, slots := 0, locals := 103 }) s m ([.ref h0, .int u1] : List Value).toArray below meth c H locs 0 0 (MQ below (QT (po_X11_image kp L f0 h0 u1) G cI cJ cZ cD cR cT A kp L) ([.ref h0, .int u1] : List Value).toArray s 0 0 A) (F0 m 54 ls []) := by
      intro f37 H locs ls hW hF hl
      clear c7
      refine lv_aload_n hx hb dX11_image_54 rfl (lv_at hl 0 rfl) ?_
      refine lv_iconst (v := 0) hx hb dX11_image_55 (by decide) ?_
      refine t_callV (As := [.int 0]) (rest := []) E hW (c_X11_accept l G cI cJ cZ cD cR cT kp L f37 hW.2.2.2 _ h0 0 rh0) rh0 (by decide) rfl wk_X11_accept tw_611 rfl ⟨Nat.le_of_ble_eq_true rfl, Nat.le_of_ble_eq_true rfl⟩ ⟨rfl, rfl⟩ hl.1 rfl (Nat.le_of_ble_eq_true rfl) dX11_image_56 ⟨Nat.le_of_ble_eq_true rfl, Nat.le_of_ble_eq_true rfl⟩ (fun v39 f40 H locs q41 hW => ?_)
      obtain ⟨⟨x43, rfl, p44⟩, g42⟩ := q41
      clear p44
      have hF := FM.tr hF g42 rfl
      exact e_I E hW rfl ⟨⟨_, rfl, trivial⟩, hF⟩ dX11_image_59
    refine q_if_ne (tgt := 38) hx hb dX11_image_16 (by decide) rfl (fun c45 => ?_) (fun c45 => ?_)
    · refine lv_aload_n hx hb dX11_image_38 rfl (lv_at hl 0 rfl) ?_
      refine fg_RX11_24 E hW rh0 dX11_image_39 (fun a46 m47 r48 => ?_)
      refine lv_aload_n hx hb dX11_image_42 rfl (lv_at hl 0 rfl) ?_
      refine fg_RX11_12 E hW rh0 dX11_image_43 (fun a49 m50 r51 => ?_)
      refine t_callV (As := [.ref a49]) (rest := []) E hW (c_X0_copyFrom l G cI cJ cZ cD cR cT kp L f2 hW.2.2.2 _ a46 a49 r48 r51) r48 (by decide) rfl wk_X0_copyFrom tw_1285 rfl ⟨Nat.le_of_ble_eq_true rfl, Nat.le_of_ble_eq_true rfl⟩ ⟨rfl, rfl⟩ hl.1 rfl (Nat.le_of_ble_eq_true rfl) dX11_image_46 ⟨Nat.le_of_ble_eq_true rfl, Nat.le_of_ble_eq_true rfl⟩ (fun v52 f53 H locs q54 hW => ?_)
      obtain ⟨rfl, g55⟩ := q54
      have hF := FM.tr hF g55 rfl
      refine lv_aload_n hx hb dX11_image_49 rfl (lv_at hl 0 rfl) ?_
      refine lv_iconst (v := 1) hx hb dX11_image_50 (by decide) ?_
      refine fp_RX11_353 E hW rh0 (by decide) dX11_image_51 (fun f56 H locs e57 n58 g59 hW => ?_)
      have hF := FM.tr hF g59 rfl
      exact J38 f56  _ _ _ hW hF (lv_sub hl [0, 1] rfl)
    · refine lv_aload_n hx hb dX11_image_19 rfl (lv_at hl 0 rfl) ?_
      refine fg_RX11_21 E hW rh0 dX11_image_20 (fun a60 m61 r62 => ?_)
      refine lv_aload_n hx hb dX11_image_23 rfl (lv_at hl 0 rfl) ?_
      refine fg_RX11_12 E hW rh0 dX11_image_24 (fun a63 m64 r65 => ?_)
      refine t_callV (As := [.ref a63]) (rest := []) E hW (c_X0_copyFrom l G cI cJ cZ cD cR cT kp L f2 hW.2.2.2 _ a60 a63 r62 r65) r62 (by decide) rfl wk_X0_copyFrom tw_1285 rfl ⟨Nat.le_of_ble_eq_true rfl, Nat.le_of_ble_eq_true rfl⟩ ⟨rfl, rfl⟩ hl.1 rfl (Nat.le_of_ble_eq_true rfl) dX11_image_27 ⟨Nat.le_of_ble_eq_true rfl, Nat.le_of_ble_eq_true rfl⟩ (fun v66 f67 H locs q68 hW => ?_)
      obtain ⟨rfl, g69⟩ := q68
      have hF := FM.tr hF g69 rfl
      refine lv_aload_n hx hb dX11_image_30 rfl (lv_at hl 0 rfl) ?_
      refine lv_iconst (v := 1) hx hb dX11_image_31 (by decide) ?_
      refine fp_RX11_349 E hW rh0 (by decide) dX11_image_32 (fun f70 H locs e71 n72 g73 hW => ?_)
      have hF := FM.tr hF g73 rfl
      refine lv_goto (tgt := 54) hx hb dX11_image_35 (by decide) ?_
      exact J38 f70  _ _ _ hW hF (lv_sub hl [0, 1] rfl)
  · have q74 : (u1.toInt < 0 ∨ 1 < u1.toInt) := by omega
    clear p6
    refine lv_aload_n hx hb dX11_image_9 rfl (lv_at hl 0 rfl) ?_
    refine lv_iconst (v := (-1)) hx hb dX11_image_10 (by decide) ?_
    refine t_callV (As := [.int (-1)]) (rest := []) E hW (c_X11_refuse l G cI cJ cZ cD cR cT kp L f2 hW.2.2.2 _ h0 (-1) rh0 (by decide)) rh0 (by decide) rfl wk_X11_refuse tw_603 rfl ⟨Nat.le_of_ble_eq_true rfl, Nat.le_of_ble_eq_true rfl⟩ ⟨rfl, rfl⟩ hl.1 rfl (Nat.le_of_ble_eq_true rfl) dX11_image_11 ⟨Nat.le_of_ble_eq_true rfl, Nat.le_of_ble_eq_true rfl⟩ (fun v75 f76 H locs q77 hW => ?_)
    obtain ⟨⟨x79, rfl, p80⟩, g78⟩ := q77
    have p80 : (-6 : Int) ≤ x79.toInt ∧ x79.toInt ≤ -1 := p80
    have hF := FM.tr hF g78 rfl
    exact e_I E hW rfl ⟨⟨_, rfl, trivial⟩, hF⟩ dX11_image_14
def ms_X11_isWished : List (Nat × Nat) := []
def po_X11_isWished (kp : Nat → Nat) (L : List Nat) (f0 : Nat → va_E) (h0 : Nat) (u1 : Int32) : Option Value → (Nat → va_E) → Prop := fun v f => (∃ r : Int32, v = some (.int r) ∧ ((0 : Int) ≤ r.toInt ∧ r.toInt ≤ 1)) ∧ FM kp L ms_X11_isWished f0 f
set_option maxHeartbeats 4000000 in
set_option maxRecDepth 100000 in
theorem c_X11_isWished (l : Launch) (G : va_G) (cI cJ cZ cD cR cT : ClassId) (kp : Nat → Nat) (L : List Nat) (f0 : Nat → va_E) (hTH : TH cI cJ cZ cD cR cT kp L f0) (sz : Nat) (h0 : Nat) (u1 : Int32) (rh0 : RK kp L h0 11) (pu1 : (0 : Int) ≤ u1.toInt ∧ u1.toInt ≤ 39) : Met l yX11_isWished (Cond.code yX11_isWished cX11_isWished 3 (some .boolean) :: wTab) ({ frames := 1, cells := 0, slots := 0, locals := 40 }) (va_Pc [.ref h0, .int u1] (PreW G (tys6 cI cJ cZ cD cR cT) (va_pl L f0) sz)) (QT (po_X11_isWished kp L f0 h0 u1) G cI cJ cZ cD cR cT (va_A (va_pl L f0) sz) kp L) 0 0 (va_A (va_pl L f0) sz) := by
  refine metT (by decide) (Nat.le_of_ble_eq_true rfl) hTH ?_
  intro p e s m below meth c A ls E hW hl
  obtain ⟨hx, hb, -, hml, hown, hts, -, -, -⟩ := id E
  have hF : FM kp L ms_X11_isWished f0 f0 := FM.rf
  have hl : lv_has ls 3 [(0, .ref h0), (1, .int u1)] := hl
  refine lv_iconst (v := 0) hx hb dX11_isWished_0 (by decide) ?_
  refine lv_istore_n (lv' := [(2, .int 0), (0, .ref h0), (1, .int u1)]) hx hb dX11_isWished_1 rfl hl (by decide) rfl (fun ls hl => ?_)
  have L108 : ∀ (n : Nat), ∀ (y106 : Int32) (b107 : (0 : Int) ≤ y106.toInt ∧ y106.toInt ≤ 6) (hm : (7 : Int) - y106.toInt ≤ n) (H : Heap) (locs : List Loc) (ls : Array Slot), WS G cI cJ cZ cD cR cT A kp L f0 s H locs → FM kp L ms_X11_isWished f0 f0 → lv_has ls 3 [(2, .int y106), (0, .ref h0), (1, .int u1)] → W p l e ({ frames := 1, cells := 0, slots := 0, locals := 40 }) s m ([.ref h0, .int u1] : List Value).toArray below meth c H locs 0 0 (MQ below (QT (po_X11_isWished kp L f0 h0 u1) G cI cJ cZ cD cR cT A kp L) ([.ref h0, .int u1] : List Value).toArray s 0 0 A) (F0 m 2 ls []) := by
    intro n
    induction n with
    | zero =>
      intro y106 b107 hm H locs ls hW hF hl
      have hz := i32_b y106
      exfalso; omega
    | succ n ih =>
      intro y106 b107 hm H locs ls hW hF hl
      have ih2 := ih
      refine lv_iload_n hx hb dX11_isWished_2 rfl (lv_at hl 0 rfl) ?_
      refine lv_aload_n hx hb dX11_isWished_3 rfl (lv_at hl 1 rfl) ?_
      refine fg_RX11_309 E hW rh0 dX11_isWished_4 (fun y109 m110 b111 => ?_)
      refine q_icmp_ge (tgt := 28) hx hb dX11_isWished_7 (by decide) rfl rfl (fun c112 => ?_) (fun c112 => ?_)
      · refine lv_iconst (v := 0) hx hb dX11_isWished_28 (by decide) ?_
        exact e_Z E hW rfl (by decide) ⟨⟨_, rfl, (by have hk : (0 : Int32).toInt = 0 := rfl; first | decide | omega)⟩, hF⟩ dX11_isWished_29
      · refine lv_aload_n hx hb dX11_isWished_10 rfl (lv_at hl 1 rfl) ?_
        refine fg_RX11_41 E hW rh0 dX11_isWished_11 (fun a113 m114 r115 => ?_)
        refine lv_iload_n hx hb dX11_isWished_14 rfl (lv_at hl 0 rfl) ?_
        refine gl_768 E hW r115 ⟨by omega, by omega⟩ dX11_isWished_15 (fun y116 m117 b118 => ?_)
        refine lv_iload_n hx hb dX11_isWished_16 rfl (lv_at hl 2 rfl) ?_
        refine q_icmp_ne (tgt := 22) hx hb dX11_isWished_17 (by decide) rfl rfl (fun c119 => ?_) (fun c119 => ?_)
        · refine q_iinc hx hb dX11_isWished_22 hl (k := 0) rfl rfl rfl (by omega) (by decide) (fun i120 ls h121 hl => ?_)
          have hl : lv_has ls 3 [(2, .int i120), (0, .ref h0), (1, .int u1)] := hl
          refine lv_goto (tgt := 2) hx hb dX11_isWished_25 (by decide) ?_
          exact ih2 i120 (by omega) (by omega) _ _ _ hW hF (lv_sub hl [0, 1, 2] rfl)
        · refine lv_iconst (v := 1) hx hb dX11_isWished_20 (by decide) ?_
          exact e_Z E hW rfl (by decide) ⟨⟨_, rfl, (by have hk : (1 : Int32).toInt = 1 := rfl; first | decide | omega)⟩, hF⟩ dX11_isWished_21
  have hk122 : (0 : Int32).toInt = 0 := rfl
  exact L108 7 0 (by decide) (by omega) _ _ _ hW hF (lv_sub hl [0, 1, 2] rfl)
def ms_X11_judge : List (Nat × Nat) := [(0, 6), (0, 9), (0, 10), (0, 11), (0, 12), (0, 13), (0, 14), (1, 0), (1, 8), (1, 12), (1, 13), (1, 14), (2, 0), (3, 0), (3, 1), (3, 2), (3, 3), (4, 0), (10, 0), (10, 7), (108, 0), (115, 0), (161, 0), (162, 0), (163, 0), (164, 0), (165, 0), (166, 0), (167, 0), (169, 0), (170, 0), (171, 0), (221, 0), (222, 0), (223, 0), (284, 0), (285, 0), (341, 0), (342, 0), (343, 0), (344, 0), (345, 0), (346, 0), (347, 0), (348, 0), (349, 0), (520, 0), (521, 0), (701, 0), (702, 0), (703, 0), (704, 0), (705, 0), (706, 0), (708, 0), (709, 0), (710, 0)]
def po_X11_judge (kp : Nat → Nat) (L : List Nat) (f0 : Nat → va_E) (h0 : Nat) (u1 : Int32) (u2 : Int32) : Option Value → (Nat → va_E) → Prop := fun v f => (∃ r : Int32, v = some (.int r) ∧ ((-1 : Int) ≤ r.toInt)) ∧ FM kp L ms_X11_judge f0 f
set_option maxHeartbeats 4000000 in
set_option maxRecDepth 100000 in
theorem c_X11_judge (l : Launch) (G : va_G) (cI cJ cZ cD cR cT : ClassId) (kp : Nat → Nat) (L : List Nat) (f0 : Nat → va_E) (hTH : TH cI cJ cZ cD cR cT kp L f0) (sz : Nat) (h0 : Nat) (u1 : Int32) (u2 : Int32) (rh0 : RK kp L h0 11) : Met l yX11_judge (Cond.code yX11_judge cX11_judge 3 (some .int) :: wTab) ({ frames := 8, cells := 0, slots := 0, locals := 217 }) (va_Pc [.ref h0, .int u1, .int u2] (PreW G (tys6 cI cJ cZ cD cR cT) (va_pl L f0) sz)) (QT (po_X11_judge kp L f0 h0 u1 u2) G cI cJ cZ cD cR cT (va_A (va_pl L f0) sz) kp L) 0 0 (va_A (va_pl L f0) sz) := by
  refine metT (by decide) (Nat.le_of_ble_eq_true rfl) hTH ?_
  intro p e s m below meth c A ls E hW hl
  obtain ⟨hx, hb, -, hml, hown, hts, -, -, -⟩ := id E
  have hF : FM kp L ms_X11_judge f0 f0 := FM.rf
  have hl : lv_has ls 3 [(0, .ref h0), (1, .int u1), (2, .int u2)] := hl
  refine lv_aload_n hx hb dX11_judge_0 rfl (lv_at hl 0 rfl) ?_
  refine lv_iload_n hx hb dX11_judge_1 rfl (lv_at hl 2 rfl) ?_
  refine t_callV (As := [.int u2]) (rest := []) E hW (c_X11_canChoose l G cI cJ cZ cD cR cT kp L f0 hW.2.2.2 _ h0 u2 rh0) rh0 (by decide) rfl wk_X11_canChoose tw_1272 rfl ⟨Nat.le_of_ble_eq_true rfl, Nat.le_of_ble_eq_true rfl⟩ ⟨rfl, rfl⟩ hl.1 rfl (Nat.le_of_ble_eq_true rfl) dX11_judge_2 ⟨Nat.le_of_ble_eq_true rfl, Nat.le_of_ble_eq_true rfl⟩ (fun v1 f2 H locs q3 hW => ?_)
  obtain ⟨⟨x5, rfl, p6⟩, g4⟩ := q3
  have hF := FM.tr hF g4 rfl
  refine q_if_eq (tgt := 24) hx hb dX11_judge_5 (by decide) rfl (fun c7 => ?_) (fun c7 => ?_)
  · refine lv_iconst (v := (-1)) hx hb dX11_judge_24 (by decide) ?_
    exact e_I E hW rfl ⟨⟨_, rfl, (by have hk : ((-1) : Int32).toInt = -1 := rfl; first | decide | omega)⟩, hF⟩ dX11_judge_25
  · refine lv_iload_n hx hb dX11_judge_8 rfl (lv_at hl 1 rfl) ?_
    refine lv_iconst (v := 0) hx hb dX11_judge_9 (by decide) ?_
    refine lv_iconst (v := 1) hx hb dX11_judge_10 (by decide) ?_
    refine lv_aload_n hx hb dX11_judge_11 rfl (lv_at hl 0 rfl) ?_
    refine fg_RX11_309 E hW rh0 dX11_judge_12 (fun y8 m9 b10 => ?_)
    refine u_ishl hx hb dX11_judge_15 (fun x11 => ?_)
    refine lv_iconst (v := 1) hx hb dX11_judge_16 (by decide) ?_
    refine u_isub hx hb dX11_judge_17 (fun x12 => ?_)
    refine t_callS (As := [.int u1, .int 0, .int x12]) (rest := []) E hW (c_X11_within l G cI cJ cZ cD cR cT kp L f2 hW.2.2.2 _ u1 0 x12 (by decide)) wk_X11_within tw_599 rfl ⟨Nat.le_of_ble_eq_true rfl, Nat.le_of_ble_eq_true rfl⟩ ⟨rfl, rfl⟩ hl.1 rfl (Nat.le_of_ble_eq_true rfl) dX11_judge_18 ⟨Nat.le_of_ble_eq_true rfl, Nat.le_of_ble_eq_true rfl⟩ (fun v13 f14 H locs q15 hW => ?_)
    obtain ⟨⟨x17, rfl, p18⟩, g16⟩ := q15
    have p18 : (x17.toInt = 1 ∧ 0 ≤ u1.toInt ∧ u1.toInt ≤ x12.toInt) ∨ (x17.toInt = 0 ∧ (u1.toInt < 0 ∨ x12.toInt < u1.toInt)) := p18
    have hF := FM.tr hF g16 rfl
    refine q_if_ne (tgt := 26) hx hb dX11_judge_21 (by decide) rfl (fun c19 => ?_) (fun c19 => ?_)
    · have q20 : 0 ≤ u1.toInt ∧ u1.toInt ≤ x12.toInt := by omega
      clear p18
      refine lv_aload_n hx hb dX11_judge_26 rfl (lv_at hl 0 rfl) ?_
      refine lv_iload_n hx hb dX11_judge_27 rfl (lv_at hl 1 rfl) ?_
      refine lv_iload_n hx hb dX11_judge_28 rfl (lv_at hl 2 rfl) ?_
      refine lv_bipush (v := 41) hx hb dX11_judge_29 (by decide) ?_
      refine t_callV (As := [.int u1, .int u2, .int 41]) (rest := []) E hW (c_X11_worstOf l G cI cJ cZ cD cR cT kp L f14 hW.2.2.2 _ h0 u1 u2 41 rh0 (by decide)) rh0 (by decide) rfl wk_X11_worstOf tw_1281 rfl ⟨Nat.le_of_ble_eq_true rfl, Nat.le_of_ble_eq_true rfl⟩ ⟨rfl, rfl⟩ hl.1 rfl (Nat.le_of_ble_eq_true rfl) dX11_judge_31 ⟨Nat.le_of_ble_eq_true rfl, Nat.le_of_ble_eq_true rfl⟩ (fun v21 f22 H locs q23 hW => ?_)
      obtain ⟨⟨x25, rfl, p26⟩, g24⟩ := q23
      have p26 : (0 : Int) ≤ x25.toInt := p26
      have hF := FM.tr hF g24 rfl
      exact e_I E hW rfl ⟨⟨_, rfl, (by first | omega | trivial)⟩, hF⟩ dX11_judge_34
    · have q27 : (u1.toInt < 0 ∨ x12.toInt < u1.toInt) := by omega
      clear p18
      refine lv_iconst (v := (-1)) hx hb dX11_judge_24 (by decide) ?_
      exact e_I E hW rfl ⟨⟨_, rfl, (by have hk : ((-1) : Int32).toInt = -1 := rfl; first | decide | omega)⟩, hF⟩ dX11_judge_25
def ms_X11_keeps : List (Nat × Nat) := []
def po_X11_keeps (kp : Nat → Nat) (L : List Nat) (f0 : Nat → va_E) (h0 : Nat) (u1 : Int32) (u2 : Int32) : Option Value → (Nat → va_E) → Prop := fun v f => (∃ r : Int32, v = some (.int r) ∧ ((-1 : Int) ≤ r.toInt ∧ r.toInt ≤ 1)) ∧ FM kp L ms_X11_keeps f0 f
set_option maxHeartbeats 4000000 in
set_option maxRecDepth 100000 in
theorem c_X11_keeps (l : Launch) (G : va_G) (cI cJ cZ cD cR cT : ClassId) (kp : Nat → Nat) (L : List Nat) (f0 : Nat → va_E) (hTH : TH cI cJ cZ cD cR cT kp L f0) (sz : Nat) (h0 : Nat) (u1 : Int32) (u2 : Int32) (rh0 : RK kp L h0 11) : Met l yX11_keeps (Cond.code yX11_keeps cX11_keeps 4 (some .int) :: wTab) ({ frames := 3, cells := 0, slots := 0, locals := 86 }) (va_Pc [.ref h0, .int u1, .int u2] (PreW G (tys6 cI cJ cZ cD cR cT) (va_pl L f0) sz)) (QT (po_X11_keeps kp L f0 h0 u1 u2) G cI cJ cZ cD cR cT (va_A (va_pl L f0) sz) kp L) 0 0 (va_A (va_pl L f0) sz) := by
  refine metT (by decide) (Nat.le_of_ble_eq_true rfl) hTH ?_
  intro p e s m below meth c A ls E hW hl
  obtain ⟨hx, hb, -, hml, hown, hts, -, -, -⟩ := id E
  have hF : FM kp L ms_X11_keeps f0 f0 := FM.rf
  have hl : lv_has ls 4 [(0, .ref h0), (1, .int u1), (2, .int u2)] := hl
  refine lv_aload_n hx hb dX11_keeps_0 rfl (lv_at hl 0 rfl) ?_
  refine fg_RX11_12 E hW rh0 dX11_keeps_1 (fun a1 m2 r3 => ?_)
  refine fg_RX11_63 E hW r3 dX11_keeps_4 (fun a4 m5 r6 => ?_)
  refine lv_astore_n (lv' := [(3, .ref a4), (0, .ref h0), (1, .int u1), (2, .int u2)]) hx hb dX11_keeps_7 rfl hl (by decide) rfl (fun ls hl => ?_)
  refine lv_aload_n hx hb dX11_keeps_8 rfl (lv_at hl 0 rfl) ?_
  refine lv_iload_n hx hb dX11_keeps_9 rfl (lv_at hl 2 rfl) ?_
  refine t_callV (As := [.int u1]) (rest := []) E hW (c_X4_has l G cI cJ cZ cD cR cT kp L f0 hW.2.2.2 _ a4 u1 r6) r6 (by decide) rfl wk_X4_has tw_619 rfl ⟨Nat.le_of_ble_eq_true rfl, Nat.le_of_ble_eq_true rfl⟩ ⟨rfl, rfl⟩ hl.1 rfl (Nat.le_of_ble_eq_true rfl) dX11_keeps_10 ⟨Nat.le_of_ble_eq_true rfl, Nat.le_of_ble_eq_true rfl⟩ (fun v7 f8 H locs q9 hW => ?_)
  obtain ⟨⟨x11, rfl, p12⟩, g10⟩ := q9
  have hF := FM.tr hF g10 rfl
  refine q_if_eq (tgt := 29) hx hb dX11_keeps_13 (by decide) rfl (fun c13 => ?_) (fun c13 => ?_)
  · clear p12
    refine lv_iconst (v := (-1)) hx hb dX11_keeps_29 (by decide) ?_
    exact e_I E hW rfl ⟨⟨_, rfl, (by have hk : ((-1) : Int32).toInt = -1 := rfl; first | decide | omega)⟩, hF⟩ dX11_keeps_30
  · have q14 : 0 ≤ u1.toInt ∧ u1.toInt ≤ 39 := by omega
    clear p12
    refine lv_aload_n hx hb dX11_keeps_16 rfl (lv_at hl 0 rfl) ?_
    refine lv_iload_n hx hb dX11_keeps_17 rfl (lv_at hl 3 rfl) ?_
    refine t_callV (As := [.int u2]) (rest := []) E hW (c_X4_has l G cI cJ cZ cD cR cT kp L f8 hW.2.2.2 _ a4 u2 r6) r6 (by decide) rfl wk_X4_has tw_619 rfl ⟨Nat.le_of_ble_eq_true rfl, Nat.le_of_ble_eq_true rfl⟩ ⟨rfl, rfl⟩ hl.1 rfl (Nat.le_of_ble_eq_true rfl) dX11_keeps_18 ⟨Nat.le_of_ble_eq_true rfl, Nat.le_of_ble_eq_true rfl⟩ (fun v15 f16 H locs q17 hW => ?_)
    obtain ⟨⟨x19, rfl, p20⟩, g18⟩ := q17
    have hF := FM.tr hF g18 rfl
    refine q_if_eq (tgt := 29) hx hb dX11_keeps_21 (by decide) rfl (fun c21 => ?_) (fun c21 => ?_)
    · clear p20
      refine lv_iconst (v := (-1)) hx hb dX11_keeps_29 (by decide) ?_
      exact e_I E hW rfl ⟨⟨_, rfl, (by have hk : ((-1) : Int32).toInt = -1 := rfl; first | decide | omega)⟩, hF⟩ dX11_keeps_30
    · have q22 : 0 ≤ u2.toInt ∧ u2.toInt ≤ 39 := by omega
      clear p20
      refine lv_iload_n hx hb dX11_keeps_24 rfl (lv_at hl 2 rfl) ?_
      refine lv_iload_n hx hb dX11_keeps_25 rfl (lv_at hl 3 rfl) ?_
      refine q_icmp_ne (tgt := 31) hx hb dX11_keeps_26 (by decide) rfl rfl (fun c23 => ?_) (fun c23 => ?_)
      · refine lv_aload_n hx hb dX11_keeps_31 rfl (lv_at hl 0 rfl) ?_
        refine lv_iload_n hx hb dX11_keeps_32 rfl (lv_at hl 2 rfl) ?_
        refine lv_iload_n hx hb dX11_keeps_33 rfl (lv_at hl 3 rfl) ?_
        refine lv_aload_n hx hb dX11_keeps_34 rfl (lv_at hl 1 rfl) ?_
        refine fg_RX11_12 E hW rh0 dX11_keeps_35 (fun a24 m25 r26 => ?_)
        obtain rfl : a1 = a24 := (((fm_R g18 rh0 rfl).trans ((fm_R g10 rh0 rfl).trans m2))).symm.trans m25
        refine fg_RX11_98 E hW r3 dX11_keeps_38 (fun a27 m28 r29 => ?_)
        refine fg_RX11_282 E hW r29 dX11_keeps_41 (fun y30 m31 => ?_)
        refine t_callV (As := [.int u1, .int u2, .int y30]) (rest := []) E hW (c_X4_keepsBan l G cI cJ cZ cD cR cT kp L f16 hW.2.2.2 _ a4 u1 u2 y30 r6 (by omega) (by omega)) r6 (by decide) rfl wk_X4_keepsBan tw_1184 rfl ⟨Nat.le_of_ble_eq_true rfl, Nat.le_of_ble_eq_true rfl⟩ ⟨rfl, rfl⟩ hl.1 rfl (Nat.le_of_ble_eq_true rfl) dX11_keeps_44 ⟨Nat.le_of_ble_eq_true rfl, Nat.le_of_ble_eq_true rfl⟩ (fun v33 f34 H locs q35 hW => ?_)
        obtain ⟨⟨x37, rfl, p38⟩, g36⟩ := q35
        have hF := FM.tr hF g36 rfl
        have J41 : ∀ (y39 : Int32) (b40 : (0 : Int) ≤ y39.toInt ∧ y39.toInt ≤ 1) (H : Heap) (locs : List Loc) (ls : Array Slot), WS G cI cJ cZ cD cR cT A kp L f34 s H locs → FM kp L ms_X11_keeps f0 f34 → lv_has ls 4 [(3, .ref a4), (0, .ref h0), (1, .int u1), (2, .int u2)] → W p l e ({ frames := 3, cells := 0, slots := 0, locals := 86 }) s m ([.ref h0, .int u1, .int u2] : List Value).toArray below meth c H locs 0 0 (MQ below (QT (po_X11_keeps kp L f0 h0 u1 u2) G cI cJ cZ cD cR cT A kp L) ([.ref h0, .int u1, .int u2] : List Value).toArray s 0 0 A) (F0 m 55 ls [.int y39]) := by
          intro y39 b40 H locs ls hW hF hl
          clear c13 c21 p38
          exact e_I E hW rfl ⟨⟨_, rfl, (by first | omega | trivial)⟩, hF⟩ dX11_keeps_55
        refine q_if_eq (tgt := 54) hx hb dX11_keeps_47 (by decide) rfl (fun c42 => ?_) (fun c42 => ?_)
        · refine lv_iconst (v := 0) hx hb dX11_keeps_54 (by decide) ?_
          exact J41 0 (by decide) _ _ _ hW hF (lv_sub hl [0, 1, 2, 3] rfl)
        · refine lv_iconst (v := 1) hx hb dX11_keeps_50 (by decide) ?_
          refine lv_goto (tgt := 55) hx hb dX11_keeps_51 (by decide) ?_
          exact J41 1 (by decide) _ _ _ hW hF (lv_sub hl [0, 1, 2, 3] rfl)
      · refine lv_iconst (v := (-1)) hx hb dX11_keeps_29 (by decide) ?_
        exact e_I E hW rfl ⟨⟨_, rfl, (by have hk : ((-1) : Int32).toInt = -1 := rfl; first | decide | omega)⟩, hF⟩ dX11_keeps_30
def ms_X11_last : List (Nat × Nat) := []
def po_X11_last (kp : Nat → Nat) (L : List Nat) (f0 : Nat → va_E) (h0 : Nat) (u1 : Int32) (u2 : Int32) (u3 : Int32) : Option Value → (Nat → va_E) → Prop := fun v f => (∃ r : Int32, v = some (.int r) ∧ ((-1 : Int) ≤ r.toInt ∧ r.toInt ≤ 400)) ∧ FM kp L ms_X11_last f0 f
set_option maxHeartbeats 4000000 in
set_option maxRecDepth 100000 in
theorem c_X11_last (l : Launch) (G : va_G) (cI cJ cZ cD cR cT : ClassId) (kp : Nat → Nat) (L : List Nat) (f0 : Nat → va_E) (hTH : TH cI cJ cZ cD cR cT kp L f0) (sz : Nat) (h0 : Nat) (u1 : Int32) (u2 : Int32) (u3 : Int32) (rh0 : RK kp L h0 11) : Met l yX11_last (Cond.code yX11_last cX11_last 9 (some .int) :: wTab) ({ frames := 2, cells := 0, slots := 0, locals := 62 }) (va_Pc [.ref h0, .int u1, .int u2, .int u3] (PreW G (tys6 cI cJ cZ cD cR cT) (va_pl L f0) sz)) (QT (po_X11_last kp L f0 h0 u1 u2 u3) G cI cJ cZ cD cR cT (va_A (va_pl L f0) sz) kp L) 0 0 (va_A (va_pl L f0) sz) := by
  refine metT (by decide) (Nat.le_of_ble_eq_true rfl) hTH ?_
  intro p e s m below meth c A ls E hW hl
  obtain ⟨hx, hb, -, hml, hown, hts, -, -, -⟩ := id E
  have hF : FM kp L ms_X11_last f0 f0 := FM.rf
  have hl : lv_has ls 9 [(0, .ref h0), (1, .int u1), (2, .int u2), (3, .int u3)] := hl
  refine lv_iload_n hx hb dX11_last_0 rfl (lv_at hl 1 rfl) ?_
  refine lv_iconst (v := 1) hx hb dX11_last_1 (by decide) ?_
  refine lv_sipush (v := 10000) hx hb dX11_last_2 (by decide) ?_
  refine t_callS (As := [.int u1, .int 1, .int 10000]) (rest := []) E hW (c_X11_within l G cI cJ cZ cD cR cT kp L f0 hW.2.2.2 _ u1 1 10000 (by decide)) wk_X11_within tw_599 rfl ⟨Nat.le_of_ble_eq_true rfl, Nat.le_of_ble_eq_true rfl⟩ ⟨rfl, rfl⟩ hl.1 rfl (Nat.le_of_ble_eq_true rfl) dX11_last_5 ⟨Nat.le_of_ble_eq_true rfl, Nat.le_of_ble_eq_true rfl⟩ (fun v1 f2 H locs q3 hW => ?_)
  obtain ⟨⟨x5, rfl, p6⟩, g4⟩ := q3
  have p6 : (x5.toInt = 1 ∧ 1 ≤ u1.toInt ∧ u1.toInt ≤ 10000) ∨ (x5.toInt = 0 ∧ (u1.toInt < 1 ∨ 10000 < u1.toInt)) := p6
  have hF := FM.tr hF g4 rfl
  refine q_if_eq (tgt := 33) hx hb dX11_last_8 (by decide) rfl (fun c7 => ?_) (fun c7 => ?_)
  · have q8 : (u1.toInt < 1 ∨ 10000 < u1.toInt) := by omega
    clear p6
    refine lv_iconst (v := (-1)) hx hb dX11_last_33 (by decide) ?_
    exact e_I E hW rfl ⟨⟨_, rfl, (by have hk : ((-1) : Int32).toInt = -1 := rfl; first | decide | omega)⟩, hF⟩ dX11_last_34
  · have q9 : 1 ≤ u1.toInt ∧ u1.toInt ≤ 10000 := by omega
    clear p6
    refine lv_iload_n hx hb dX11_last_11 rfl (lv_at hl 2 rfl) ?_
    refine lv_iconst (v := 0) hx hb dX11_last_12 (by decide) ?_
    refine lv_sipush (v := 1000) hx hb dX11_last_13 (by decide) ?_
    refine t_callS (As := [.int u2, .int 0, .int 1000]) (rest := []) E hW (c_X11_within l G cI cJ cZ cD cR cT kp L f2 hW.2.2.2 _ u2 0 1000 (by decide)) wk_X11_within tw_599 rfl ⟨Nat.le_of_ble_eq_true rfl, Nat.le_of_ble_eq_true rfl⟩ ⟨rfl, rfl⟩ hl.1 rfl (Nat.le_of_ble_eq_true rfl) dX11_last_16 ⟨Nat.le_of_ble_eq_true rfl, Nat.le_of_ble_eq_true rfl⟩ (fun v10 f11 H locs q12 hW => ?_)
    obtain ⟨⟨x14, rfl, p15⟩, g13⟩ := q12
    have p15 : (x14.toInt = 1 ∧ 0 ≤ u2.toInt ∧ u2.toInt ≤ 1000) ∨ (x14.toInt = 0 ∧ (u2.toInt < 0 ∨ 1000 < u2.toInt)) := p15
    have hF := FM.tr hF g13 rfl
    refine q_if_eq (tgt := 33) hx hb dX11_last_19 (by decide) rfl (fun c16 => ?_) (fun c16 => ?_)
    · have q17 : (u2.toInt < 0 ∨ 1000 < u2.toInt) := by omega
      clear p15
      refine lv_iconst (v := (-1)) hx hb dX11_last_33 (by decide) ?_
      exact e_I E hW rfl ⟨⟨_, rfl, (by have hk : ((-1) : Int32).toInt = -1 := rfl; first | decide | omega)⟩, hF⟩ dX11_last_34
    · have q18 : 0 ≤ u2.toInt ∧ u2.toInt ≤ 1000 := by omega
      clear p15
      refine lv_iload_n hx hb dX11_last_22 rfl (lv_at hl 3 rfl) ?_
      refine lv_iconst (v := 0) hx hb dX11_last_23 (by decide) ?_
      refine lv_sipush (v := 1000) hx hb dX11_last_24 (by decide) ?_
      refine t_callS (As := [.int u3, .int 0, .int 1000]) (rest := []) E hW (c_X11_within l G cI cJ cZ cD cR cT kp L f11 hW.2.2.2 _ u3 0 1000 (by decide)) wk_X11_within tw_599 rfl ⟨Nat.le_of_ble_eq_true rfl, Nat.le_of_ble_eq_true rfl⟩ ⟨rfl, rfl⟩ hl.1 rfl (Nat.le_of_ble_eq_true rfl) dX11_last_27 ⟨Nat.le_of_ble_eq_true rfl, Nat.le_of_ble_eq_true rfl⟩ (fun v19 f20 H locs q21 hW => ?_)
      obtain ⟨⟨x23, rfl, p24⟩, g22⟩ := q21
      have p24 : (x23.toInt = 1 ∧ 0 ≤ u3.toInt ∧ u3.toInt ≤ 1000) ∨ (x23.toInt = 0 ∧ (u3.toInt < 0 ∨ 1000 < u3.toInt)) := p24
      have hF := FM.tr hF g22 rfl
      refine q_if_ne (tgt := 35) hx hb dX11_last_30 (by decide) rfl (fun c25 => ?_) (fun c25 => ?_)
      · have q26 : 0 ≤ u3.toInt ∧ u3.toInt ≤ 1000 := by omega
        clear p24
        refine lv_aload_n hx hb dX11_last_35 rfl (lv_at hl 0 rfl) ?_
        refine fg_RX11_12 E hW rh0 dX11_last_36 (fun a27 m28 r29 => ?_)
        refine fg_RX11_98 E hW r29 dX11_last_39 (fun a30 m31 r32 => ?_)
        refine fg_RX11_102 E hW r32 dX11_last_42 (fun y33 m34 => ?_)
        refine q_i2l hx hb dX11_last_45 rfl (fun x36 h37 => ?_)
        have hb38 : -2147483648 ≤ x36.toInt ∧ x36.toInt ≤ 2147483647 := by have := i32_b y33; omega
        refine lv_lstore (lv' := [(4, .long x36), (0, .ref h0), (1, .int u1), (2, .int u2), (3, .int u3)]) hx hb dX11_last_46 hl (by decide) rfl (fun ls hl => ?_)
        refine lv_iload_n hx hb dX11_last_48 rfl (lv_at hl 3 rfl) ?_
        refine q_i2l hx hb dX11_last_49 rfl (fun x39 h40 => ?_)
        refine lv_lstore (lv' := [(6, .long x39), (4, .long x36), (0, .ref h0), (1, .int u1), (2, .int u2), (3, .int u3)]) hx hb dX11_last_50 hl (by decide) rfl (fun ls hl => ?_)
        refine lv_iconst (v := 0) hx hb dX11_last_52 (by decide) ?_
        refine lv_istore (lv' := [(8, .int 0), (6, .long x39), (4, .long x36), (0, .ref h0), (1, .int u1), (2, .int u2), (3, .int u3)]) hx hb dX11_last_53 hl (by decide) rfl (fun ls hl => ?_)
        have L829 : ∀ (n : Nat), ∀ (y824 : Int32) (y826 : Int64) (y827 : Int64) (b825 : (0 : Int) ≤ y824.toInt ∧ y824.toInt ≤ 400) (b828 : (-2147483648 : Int) ≤ y827.toInt) (hm : (401 : Int) - y824.toInt ≤ n) (H : Heap) (locs : List Loc) (ls : Array Slot), WS G cI cJ cZ cD cR cT A kp L f20 s H locs → FM kp L ms_X11_last f0 f20 → lv_has ls 9 [(8, .int y824), (6, .long y826), (4, .long y827), (0, .ref h0), (1, .int u1), (2, .int u2), (3, .int u3)] → W p l e ({ frames := 2, cells := 0, slots := 0, locals := 62 }) s m ([.ref h0, .int u1, .int u2, .int u3] : List Value).toArray below meth c H locs 0 0 (MQ below (QT (po_X11_last kp L f0 h0 u1 u2 u3) G cI cJ cZ cD cR cT A kp L) ([.ref h0, .int u1, .int u2, .int u3] : List Value).toArray s 0 0 A) (F0 m 55 ls []) := by
          intro n
          induction n with
          | zero =>
            intro y824 y826 y827 b825 b828 hm H locs ls hW hF hl
            have hz := i32_b y824
            exfalso; omega
          | succ n ih =>
            intro y824 y826 y827 b825 b828 hm H locs ls hW hF hl
            clear c7 c16 c25
            have ih55 := ih
            refine lv_iload hx hb dX11_last_55 (lv_at hl 0 rfl) ?_
            refine lv_sipush (v := 400) hx hb dX11_last_57 (by decide) ?_
            refine q_icmp_ge (Y := 400) (tgt := 96) hx hb dX11_last_60 (by decide) rfl rfl (fun c830 => ?_) (fun c830 => ?_)
            · refine lv_sipush (v := 400) hx hb dX11_last_96 (by decide) ?_
              exact e_I E hW rfl ⟨⟨_, rfl, (by have hk : (400 : Int32).toInt = 400 := rfl; first | decide | omega)⟩, hF⟩ dX11_last_99
            · refine lv_lload hx hb dX11_last_63 (lv_at hl 2 rfl) ?_
              refine lv_iload_n hx hb dX11_last_65 rfl (lv_at hl 4 rfl) ?_
              refine q_i2l hx hb dX11_last_66 rfl (fun x831 h832 => ?_)
              refine lv_lload hx hb dX11_last_67 (lv_at hl 1 rfl) ?_
              refine u_lmul hx hb dX11_last_69 (fun x833 => ?_)
              refine u_lsub hx hb dX11_last_70 (fun x834 => ?_)
              refine lv_lstore (lv' := [(4, .long x834), (8, .int y824), (6, .long y826), (0, .ref h0), (1, .int u1), (2, .int u2), (3, .int u3)]) hx hb dX11_last_71 hl (by decide) rfl (fun ls hl => ?_)
              refine lv_lload hx hb dX11_last_73 (lv_at hl 0 rfl) ?_
              refine lv_lconst (v := 0) hx hb dX11_last_75 (by decide) ?_
              refine q_lcmp_ge (Y := 0) (tgt := 83) hx hb dX11_last_76 dX11_last_77 (by decide) rfl rfl (fun c835 => ?_) (fun c835 => ?_)
              · refine lv_lload hx hb dX11_last_83 (lv_at hl 2 rfl) ?_
                refine lv_iload_n hx hb dX11_last_85 rfl (lv_at hl 6 rfl) ?_
                refine q_i2l hx hb dX11_last_86 rfl (fun x836 h837 => ?_)
                refine u_ladd hx hb dX11_last_87 (fun x838 => ?_)
                refine lv_lstore (lv' := [(6, .long x838), (4, .long x834), (8, .int y824), (0, .ref h0), (1, .int u1), (2, .int u2), (3, .int u3)]) hx hb dX11_last_88 hl (by decide) rfl (fun ls hl => ?_)
                refine q_iinc hx hb dX11_last_90 hl (k := 2) rfl rfl rfl (by omega) (by decide) (fun i839 ls h840 hl => ?_)
                have hl : lv_has ls 9 [(8, .int i839), (6, .long x838), (4, .long x834), (0, .ref h0), (1, .int u1), (2, .int u2), (3, .int u3)] := hl
                refine lv_goto (tgt := 55) hx hb dX11_last_93 (by decide) ?_
                exact ih55 i839 x838 x834 (by omega) (by omega) (by omega) _ _ _ hW hF (lv_sub hl [0, 1, 2, 3, 4, 5, 6] rfl)
              · refine lv_iload hx hb dX11_last_80 (lv_at hl 1 rfl) ?_
                exact e_I E hW rfl ⟨⟨_, rfl, (by first | omega | trivial)⟩, hF⟩ dX11_last_82
        have hk841 : (0 : Int32).toInt = 0 := rfl
        exact L829 401 0 x39 x36 (by decide) (by omega) (by omega) _ _ _ hW hF (lv_sub hl [0, 1, 2, 3, 4, 5, 6] rfl)
      · have q842 : (u3.toInt < 0 ∨ 1000 < u3.toInt) := by omega
        clear p24
        refine lv_iconst (v := (-1)) hx hb dX11_last_33 (by decide) ?_
        exact e_I E hW rfl ⟨⟨_, rfl, (by have hk : ((-1) : Int32).toInt = -1 := rfl; first | decide | omega)⟩, hF⟩ dX11_last_34
def ms_X11_least : List (Nat × Nat) := [(0, 14), (115, 0), (116, 0), (222, 0), (223, 0)]
def po_X11_least (kp : Nat → Nat) (L : List Nat) (f0 : Nat → va_E) (h0 : Nat) (u1 : Int32) (u2 : Int32) : Option Value → (Nat → va_E) → Prop := fun v f => (∃ r : Int32, v = some (.int r) ∧ ((-1 : Int) ≤ r.toInt ∧ r.toInt ≤ 40)) ∧ FM kp L ms_X11_least f0 f
set_option maxHeartbeats 4000000 in
set_option maxRecDepth 100000 in
theorem c_X11_least (l : Launch) (G : va_G) (cI cJ cZ cD cR cT : ClassId) (kp : Nat → Nat) (L : List Nat) (f0 : Nat → va_E) (hTH : TH cI cJ cZ cD cR cT kp L f0) (sz : Nat) (h0 : Nat) (u1 : Int32) (u2 : Int32) (rh0 : RK kp L h0 11) : Met l yX11_least (Cond.code yX11_least cX11_least 4 (some .int) :: wTab) ({ frames := 6, cells := 0, slots := 0, locals := 170 }) (va_Pc [.ref h0, .int u1, .int u2] (PreW G (tys6 cI cJ cZ cD cR cT) (va_pl L f0) sz)) (QT (po_X11_least kp L f0 h0 u1 u2) G cI cJ cZ cD cR cT (va_A (va_pl L f0) sz) kp L) 0 0 (va_A (va_pl L f0) sz) := by
  refine metT (by decide) (Nat.le_of_ble_eq_true rfl) hTH ?_
  intro p e s m below meth c A ls E hW hl
  obtain ⟨hx, hb, -, hml, hown, hts, -, -, -⟩ := id E
  have hF : FM kp L ms_X11_least f0 f0 := FM.rf
  have hl : lv_has ls 4 [(0, .ref h0), (1, .int u1), (2, .int u2)] := hl
  refine lv_aload_n hx hb dX11_least_0 rfl (lv_at hl 0 rfl) ?_
  refine fg_RX11_12 E hW rh0 dX11_least_1 (fun a1 m2 r3 => ?_)
  refine fg_RX11_255 E hW r3 dX11_least_4 (fun y4 m5 b6 => ?_)
  refine lv_bipush (v := 13) hx hb dX11_least_7 (by decide) ?_
  refine q_idiv (Y := 13) hx hb dX11_least_9 rfl rfl (by omega) (by omega) (fun x7 h8 => ?_)
  refine lv_istore_n (lv' := [(3, .int x7), (0, .ref h0), (1, .int u1), (2, .int u2)]) hx hb dX11_least_10 rfl hl (by decide) rfl (fun ls hl => ?_)
  refine lv_iload_n hx hb dX11_least_11 rfl (lv_at hl 3 rfl) ?_
  refine lv_iload_n hx hb dX11_least_12 rfl (lv_at hl 0 rfl) ?_
  refine lv_iconst (v := 1) hx hb dX11_least_13 (by decide) ?_
  refine q_iadd (Y := 1) hx hb dX11_least_14 rfl rfl (by omega) (fun x9 h10 => ?_)
  refine lv_iload_n hx hb dX11_least_15 rfl (lv_at hl 0 rfl) ?_
  refine lv_bipush (v := 8) hx hb dX11_least_16 (by decide) ?_
  refine q_iadd (Y := 8) hx hb dX11_least_18 rfl rfl (by omega) (fun x11 h12 => ?_)
  refine t_callS (As := [.int u2, .int x9, .int x11]) (rest := []) E hW (c_X11_within l G cI cJ cZ cD cR cT kp L f0 hW.2.2.2 _ u2 x9 x11 (by omega)) wk_X11_within tw_599 rfl ⟨Nat.le_of_ble_eq_true rfl, Nat.le_of_ble_eq_true rfl⟩ ⟨rfl, rfl⟩ hl.1 rfl (Nat.le_of_ble_eq_true rfl) dX11_least_19 ⟨Nat.le_of_ble_eq_true rfl, Nat.le_of_ble_eq_true rfl⟩ (fun v13 f14 H locs q15 hW => ?_)
  obtain ⟨⟨x17, rfl, p18⟩, g16⟩ := q15
  have hF := FM.tr hF g16 rfl
  refine q_if_eq (tgt := 55) hx hb dX11_least_22 (by decide) rfl (fun c19 => ?_) (fun c19 => ?_)
  · have q20 : (u2.toInt < x9.toInt ∨ x11.toInt < u2.toInt) := by omega
    clear p18
    refine lv_iconst (v := (-1)) hx hb dX11_least_55 (by decide) ?_
    exact e_I E hW rfl ⟨⟨_, rfl, (by have hk : ((-1) : Int32).toInt = -1 := rfl; first | decide | omega)⟩, hF⟩ dX11_least_56
  · have q21 : x9.toInt ≤ u2.toInt ∧ u2.toInt ≤ x11.toInt := by omega
    clear p18
    refine lv_aload_n hx hb dX11_least_25 rfl (lv_at hl 1 rfl) ?_
    refine fg_RX11_12 E hW rh0 dX11_least_26 (fun a22 m23 r24 => ?_)
    obtain rfl : a1 = a22 := (((fm_R g16 rh0 rfl).trans m2)).symm.trans m23
    refine fg_RX11_114 E hW r3 dX11_least_29 (fun a25 m26 r27 => ?_)
    refine lv_iload_n hx hb dX11_least_32 rfl (lv_at hl 2 rfl) ?_
    refine t_callV (As := [.int u1]) (rest := []) E hW (c_X1_hasEstate l G cI cJ cZ cD cR cT kp L f14 hW.2.2.2 _ a25 u1 r27) r27 (by decide) rfl wk_X1_hasEstate tw_659 rfl ⟨Nat.le_of_ble_eq_true rfl, Nat.le_of_ble_eq_true rfl⟩ ⟨rfl, rfl⟩ hl.1 rfl (Nat.le_of_ble_eq_true rfl) dX11_least_33 ⟨Nat.le_of_ble_eq_true rfl, Nat.le_of_ble_eq_true rfl⟩ (fun v28 f29 H locs q30 hW => ?_)
    obtain ⟨⟨x32, rfl, p33⟩, g31⟩ := q30
    have hF := FM.tr hF g31 rfl
    refine q_if_eq (tgt := 55) hx hb dX11_least_36 (by decide) rfl (fun c34 => ?_) (fun c34 => ?_)
    · clear p33
      refine lv_iconst (v := (-1)) hx hb dX11_least_55 (by decide) ?_
      exact e_I E hW rfl ⟨⟨_, rfl, (by have hk : ((-1) : Int32).toInt = -1 := rfl; first | decide | omega)⟩, hF⟩ dX11_least_56
    · have q35 : 0 ≤ u1.toInt ∧ u1.toInt ≤ 7 := by omega
      clear p33
      refine lv_aload_n hx hb dX11_least_39 rfl (lv_at hl 1 rfl) ?_
      refine fg_RX11_12 E hW rh0 dX11_least_40 (fun a36 m37 r38 => ?_)
      obtain rfl : a1 = a36 := (((fm_R g31 rh0 rfl).trans m23)).symm.trans m37
      refine fg_RX11_114 E hW r3 dX11_least_43 (fun a39 m40 r41 => ?_)
      obtain rfl : a25 = a39 := (((fm_R g31 r3 rfl).trans m26)).symm.trans m40
      refine fg_RX11_188 E hW r27 dX11_least_46 (fun a42 m43 r44 => ?_)
      refine lv_iload_n hx hb dX11_least_49 rfl (lv_at hl 2 rfl) ?_
      refine gl_171 E hW r44 ⟨by omega, by omega⟩ dX11_least_50 (fun y45 m46 => ?_)
      refine lv_iconst (v := (-1)) hx hb dX11_least_51 (by decide) ?_
      refine q_icmp_eq (Y := -1) (tgt := 57) hx hb dX11_least_52 (by decide) rfl rfl (fun c48 => ?_) (fun c48 => ?_)
      · refine lv_aload_n hx hb dX11_least_57 rfl (lv_at hl 1 rfl) ?_
        refine fg_RX11_12 E hW rh0 dX11_least_58 (fun a49 m50 r51 => ?_)
        obtain rfl : a1 = a49 := (m37).symm.trans m50
        refine t_callV (As := []) (rest := []) E hW (c_X0_lookAtNow l G cI cJ cZ cD cR cT kp L f29 hW.2.2.2 _ a1 r3) r3 (by decide) rfl wk_X0_lookAtNow tw_687 rfl ⟨Nat.le_of_ble_eq_true rfl, Nat.le_of_ble_eq_true rfl⟩ ⟨rfl, rfl⟩ hl.1 rfl (Nat.le_of_ble_eq_true rfl) dX11_least_61 ⟨Nat.le_of_ble_eq_true rfl, Nat.le_of_ble_eq_true rfl⟩ (fun v52 f53 H locs q54 hW => ?_)
        obtain ⟨rfl, g55⟩ := q54
        have hF := FM.tr hF g55 rfl
        refine lv_aload_n hx hb dX11_least_64 rfl (lv_at hl 1 rfl) ?_
        refine fg_RX11_12 E hW rh0 dX11_least_65 (fun a56 m57 r58 => ?_)
        obtain rfl : a1 = a56 := (((fm_R g55 rh0 rfl).trans m50)).symm.trans m57
        refine lv_iload_n hx hb dX11_least_68 rfl (lv_at hl 2 rfl) ?_
        refine lv_iload_n hx hb dX11_least_69 rfl (lv_at hl 3 rfl) ?_
        refine lv_iload_n hx hb dX11_least_70 rfl (lv_at hl 0 rfl) ?_
        refine q_isub hx hb dX11_least_71 rfl rfl (by omega) (fun x59 h60 => ?_)
        refine t_callV (As := [.int u1, .int x59]) (rest := []) E hW (c_X0_fewestKept l G cI cJ cZ cD cR cT kp L f53 hW.2.2.2 _ a1 u1 x59 r3 (by omega) (by omega)) r3 (by decide) rfl wk_X0_fewestKept tw_1215 rfl ⟨Nat.le_of_ble_eq_true rfl, Nat.le_of_ble_eq_true rfl⟩ ⟨rfl, rfl⟩ hl.1 rfl (Nat.le_of_ble_eq_true rfl) dX11_least_72 ⟨Nat.le_of_ble_eq_true rfl, Nat.le_of_ble_eq_true rfl⟩ (fun v61 f62 H locs q63 hW => ?_)
        obtain ⟨⟨x65, rfl, p66⟩, g64⟩ := q63
        have hF := FM.tr hF g64 rfl
        exact e_I E hW rfl ⟨⟨_, rfl, (by first | omega | trivial)⟩, hF⟩ dX11_least_75
      · refine lv_iconst (v := (-1)) hx hb dX11_least_55 (by decide) ?_
        exact e_I E hW rfl ⟨⟨_, rfl, (by have hk : ((-1) : Int32).toInt = -1 := rfl; first | decide | omega)⟩, hF⟩ dX11_least_56
def ms_X11_of : List (Nat × Nat) := []
def po_X11_of (kp : Nat → Nat) (L : List Nat) (f0 : Nat → va_E) (h0 : Nat) (u1 : Int32) (u2 : Int32) : Option Value → (Nat → va_E) → Prop := fun v f => (∃ r : Int32, v = some (.int r) ∧ (True)) ∧ FM kp L ms_X11_of f0 f
set_option maxHeartbeats 4000000 in
set_option maxRecDepth 100000 in
theorem c_X11_of (l : Launch) (G : va_G) (cI cJ cZ cD cR cT : ClassId) (kp : Nat → Nat) (L : List Nat) (f0 : Nat → va_E) (hTH : TH cI cJ cZ cD cR cT kp L f0) (sz : Nat) (h0 : Nat) (u1 : Int32) (u2 : Int32) (rh0 : RK kp L h0 11) : Met l yX11_of (Cond.code yX11_of cX11_of 4 (some .int) :: wTab) ({ frames := 2, cells := 0, slots := 0, locals := 63 }) (va_Pc [.ref h0, .int u1, .int u2] (PreW G (tys6 cI cJ cZ cD cR cT) (va_pl L f0) sz)) (QT (po_X11_of kp L f0 h0 u1 u2) G cI cJ cZ cD cR cT (va_A (va_pl L f0) sz) kp L) 0 0 (va_A (va_pl L f0) sz) := by
  refine metT (by decide) (Nat.le_of_ble_eq_true rfl) hTH ?_
  intro p e s m below meth c A ls E hW hl
  obtain ⟨hx, hb, -, hml, hown, hts, -, -, -⟩ := id E
  have hF : FM kp L ms_X11_of f0 f0 := FM.rf
  have hl : lv_has ls 4 [(0, .ref h0), (1, .int u1), (2, .int u2)] := hl
  refine lv_aload_n hx hb dX11_of_0 rfl (lv_at hl 0 rfl) ?_
  refine fg_RX11_12 E hW rh0 dX11_of_1 (fun a1 m2 r3 => ?_)
  refine fg_RX11_63 E hW r3 dX11_of_4 (fun a4 m5 r6 => ?_)
  refine lv_astore_n (lv' := [(3, .ref a4), (0, .ref h0), (1, .int u1), (2, .int u2)]) hx hb dX11_of_7 rfl hl (by decide) rfl (fun ls hl => ?_)
  refine lv_aload_n hx hb dX11_of_8 rfl (lv_at hl 0 rfl) ?_
  refine lv_iload_n hx hb dX11_of_9 rfl (lv_at hl 2 rfl) ?_
  refine t_callV (As := [.int u1]) (rest := []) E hW (c_X4_has l G cI cJ cZ cD cR cT kp L f0 hW.2.2.2 _ a4 u1 r6) r6 (by decide) rfl wk_X4_has tw_619 rfl ⟨Nat.le_of_ble_eq_true rfl, Nat.le_of_ble_eq_true rfl⟩ ⟨rfl, rfl⟩ hl.1 rfl (Nat.le_of_ble_eq_true rfl) dX11_of_10 ⟨Nat.le_of_ble_eq_true rfl, Nat.le_of_ble_eq_true rfl⟩ (fun v7 f8 H locs q9 hW => ?_)
  obtain ⟨⟨x11, rfl, p12⟩, g10⟩ := q9
  have hF := FM.tr hF g10 rfl
  refine q_if_ne (tgt := 18) hx hb dX11_of_13 (by decide) rfl (fun c13 => ?_) (fun c13 => ?_)
  · have q14 : 0 ≤ u1.toInt ∧ u1.toInt ≤ 39 := by omega
    clear p12
    refine lv_iload_n hx hb dX11_of_18 rfl (lv_at hl 3 rfl) ?_
    by_cases c15 : u2.toInt = 0
    · refine lv_tableIn (tgt := 56) hx hb dX11_of_19 (by omega) (by omega) (by rw [c15]; rfl) (by decide) ?_
      refine lv_aload_n hx hb dX11_of_56 rfl (lv_at hl 0 rfl) ?_
      refine fg_RX11_87 E hW r6 dX11_of_57 (fun a16 m17 r18 => ?_)
      refine lv_iload_n hx hb dX11_of_60 rfl (lv_at hl 2 rfl) ?_
      refine gl_346 E hW r18 ⟨by omega, by omega⟩ dX11_of_61 (fun y19 m20 => ?_)
      exact e_I E hW rfl ⟨⟨_, rfl, trivial⟩, hF⟩ dX11_of_62
    by_cases c22 : u2.toInt = 1
    · refine lv_tableIn (tgt := 63) hx hb dX11_of_19 (by omega) (by omega) (by rw [c22]; rfl) (by decide) ?_
      refine lv_aload_n hx hb dX11_of_63 rfl (lv_at hl 0 rfl) ?_
      refine fg_RX11_94 E hW r6 dX11_of_64 (fun a23 m24 r25 => ?_)
      refine lv_iload_n hx hb dX11_of_67 rfl (lv_at hl 2 rfl) ?_
      refine gl_342 E hW r25 ⟨by omega, by omega⟩ dX11_of_68 (fun y26 m27 => ?_)
      exact e_I E hW rfl ⟨⟨_, rfl, trivial⟩, hF⟩ dX11_of_69
    by_cases c29 : u2.toInt = 2
    · refine lv_tableIn (tgt := 70) hx hb dX11_of_19 (by omega) (by omega) (by rw [c29]; rfl) (by decide) ?_
      refine lv_aload_n hx hb dX11_of_70 rfl (lv_at hl 0 rfl) ?_
      refine fg_RX11_138 E hW r6 dX11_of_71 (fun a30 m31 r32 => ?_)
      refine lv_iload_n hx hb dX11_of_74 rfl (lv_at hl 2 rfl) ?_
      refine gl_345 E hW r32 ⟨by omega, by omega⟩ dX11_of_75 (fun y33 m34 => ?_)
      exact e_I E hW rfl ⟨⟨_, rfl, trivial⟩, hF⟩ dX11_of_76
    by_cases c36 : u2.toInt = 3
    · refine lv_tableIn (tgt := 77) hx hb dX11_of_19 (by omega) (by omega) (by rw [c36]; rfl) (by decide) ?_
      refine lv_aload_n hx hb dX11_of_77 rfl (lv_at hl 0 rfl) ?_
      refine fg_RX11_141 E hW r6 dX11_of_78 (fun a37 m38 r39 => ?_)
      refine lv_iload_n hx hb dX11_of_81 rfl (lv_at hl 2 rfl) ?_
      refine gl_348 E hW r39 ⟨by omega, by omega⟩ dX11_of_82 (fun y40 m41 => ?_)
      exact e_I E hW rfl ⟨⟨_, rfl, trivial⟩, hF⟩ dX11_of_83
    by_cases c43 : u2.toInt = 4
    · refine lv_tableIn (tgt := 84) hx hb dX11_of_19 (by omega) (by omega) (by rw [c43]; rfl) (by decide) ?_
      refine lv_aload_n hx hb dX11_of_84 rfl (lv_at hl 0 rfl) ?_
      refine fg_RX11_144 E hW r6 dX11_of_85 (fun a44 m45 r46 => ?_)
      refine lv_iload_n hx hb dX11_of_88 rfl (lv_at hl 2 rfl) ?_
      refine gl_347 E hW r46 ⟨by omega, by omega⟩ dX11_of_89 (fun y47 m48 => ?_)
      exact e_I E hW rfl ⟨⟨_, rfl, trivial⟩, hF⟩ dX11_of_90
    by_cases c50 : u2.toInt = 5
    · refine lv_tableIn (tgt := 91) hx hb dX11_of_19 (by omega) (by omega) (by rw [c50]; rfl) (by decide) ?_
      refine lv_aload_n hx hb dX11_of_91 rfl (lv_at hl 0 rfl) ?_
      refine lv_iload_n hx hb dX11_of_92 rfl (lv_at hl 2 rfl) ?_
      refine t_callV (As := [.int u1]) (rest := []) E hW (c_X4_kinOf l G cI cJ cZ cD cR cT kp L f8 hW.2.2.2 _ a4 u1 r6 (by omega)) r6 (by decide) rfl wk_X4_kinOf tw_675 rfl ⟨Nat.le_of_ble_eq_true rfl, Nat.le_of_ble_eq_true rfl⟩ ⟨rfl, rfl⟩ hl.1 rfl (Nat.le_of_ble_eq_true rfl) dX11_of_93 ⟨Nat.le_of_ble_eq_true rfl, Nat.le_of_ble_eq_true rfl⟩ (fun v51 f52 H locs q53 hW => ?_)
      obtain ⟨⟨x55, rfl, p56⟩, g54⟩ := q53
      clear p56
      have hF := FM.tr hF g54 rfl
      exact e_I E hW rfl ⟨⟨_, rfl, trivial⟩, hF⟩ dX11_of_96
    refine lv_tableOut (tgt := 97) hx hb dX11_of_19 (by omega) (by decide) ?_
    refine lv_iconst (v := (-1)) hx hb dX11_of_97 (by decide) ?_
    exact e_I E hW rfl ⟨⟨_, rfl, trivial⟩, hF⟩ dX11_of_98
  · clear p12
    refine lv_iconst (v := (-1)) hx hb dX11_of_16 (by decide) ?_
    exact e_I E hW rfl ⟨⟨_, rfl, trivial⟩, hF⟩ dX11_of_17
def ms_X11_offer : List (Nat × Nat) := [(3, 3), (11, 15), (284, 0), (285, 0)]
def po_X11_offer (kp : Nat → Nat) (L : List Nat) (f0 : Nat → va_E) (h0 : Nat) (u1 : Int32) (u2 : Int32) : Option Value → (Nat → va_E) → Prop := fun v f => (∃ r : Int32, v = some (.int r) ∧ (True)) ∧ FM kp L ms_X11_offer f0 f
set_option maxHeartbeats 4000000 in
set_option maxRecDepth 100000 in
theorem c_X11_offer (l : Launch) (G : va_G) (cI cJ cZ cD cR cT : ClassId) (kp : Nat → Nat) (L : List Nat) (f0 : Nat → va_E) (hTH : TH cI cJ cZ cD cR cT kp L f0) (sz : Nat) (h0 : Nat) (u1 : Int32) (u2 : Int32) (rh0 : RK kp L h0 11) : Met l yX11_offer (Cond.code yX11_offer cX11_offer 3 (some .int) :: wTab) ({ frames := 2, cells := 0, slots := 0, locals := 62 }) (va_Pc [.ref h0, .int u1, .int u2] (PreW G (tys6 cI cJ cZ cD cR cT) (va_pl L f0) sz)) (QT (po_X11_offer kp L f0 h0 u1 u2) G cI cJ cZ cD cR cT (va_A (va_pl L f0) sz) kp L) 0 0 (va_A (va_pl L f0) sz) := by
  refine metT (by decide) (Nat.le_of_ble_eq_true rfl) hTH ?_
  intro p e s m below meth c A ls E hW hl
  obtain ⟨hx, hb, -, hml, hown, hts, -, -, -⟩ := id E
  have hF : FM kp L ms_X11_offer f0 f0 := FM.rf
  have hl : lv_has ls 3 [(0, .ref h0), (1, .int u1), (2, .int u2)] := hl
  refine lv_iload_n hx hb dX11_offer_0 rfl (lv_at hl 1 rfl) ?_
  refine lv_sipush (v := (-1000)) hx hb dX11_offer_1 (by decide) ?_
  refine lv_sipush (v := 1000) hx hb dX11_offer_4 (by decide) ?_
  refine t_callS (As := [.int u1, .int (-1000), .int 1000]) (rest := []) E hW (c_X11_within l G cI cJ cZ cD cR cT kp L f0 hW.2.2.2 _ u1 (-1000) 1000 (by decide)) wk_X11_within tw_599 rfl ⟨Nat.le_of_ble_eq_true rfl, Nat.le_of_ble_eq_true rfl⟩ ⟨rfl, rfl⟩ hl.1 rfl (Nat.le_of_ble_eq_true rfl) dX11_offer_7 ⟨Nat.le_of_ble_eq_true rfl, Nat.le_of_ble_eq_true rfl⟩ (fun v1 f2 H locs q3 hW => ?_)
  obtain ⟨⟨x5, rfl, p6⟩, g4⟩ := q3
  have p6 : (x5.toInt = 1 ∧ (-1000) ≤ u1.toInt ∧ u1.toInt ≤ 1000) ∨ (x5.toInt = 0 ∧ (u1.toInt < (-1000) ∨ 1000 < u1.toInt)) := p6
  have hF := FM.tr hF g4 rfl
  refine q_if_eq (tgt := 26) hx hb dX11_offer_10 (by decide) rfl (fun c7 => ?_) (fun c7 => ?_)
  · have q8 : (u1.toInt < (-1000) ∨ 1000 < u1.toInt) := by omega
    clear p6
    refine lv_aload_n hx hb dX11_offer_26 rfl (lv_at hl 0 rfl) ?_
    refine lv_iconst (v := (-1)) hx hb dX11_offer_27 (by decide) ?_
    refine t_callV (As := [.int (-1)]) (rest := []) E hW (c_X11_refuse l G cI cJ cZ cD cR cT kp L f2 hW.2.2.2 _ h0 (-1) rh0 (by decide)) rh0 (by decide) rfl wk_X11_refuse tw_603 rfl ⟨Nat.le_of_ble_eq_true rfl, Nat.le_of_ble_eq_true rfl⟩ ⟨rfl, rfl⟩ hl.1 rfl (Nat.le_of_ble_eq_true rfl) dX11_offer_28 ⟨Nat.le_of_ble_eq_true rfl, Nat.le_of_ble_eq_true rfl⟩ (fun v9 f10 H locs q11 hW => ?_)
    obtain ⟨⟨x13, rfl, p14⟩, g12⟩ := q11
    have p14 : (-6 : Int) ≤ x13.toInt ∧ x13.toInt ≤ -1 := p14
    have hF := FM.tr hF g12 rfl
    exact e_I E hW rfl ⟨⟨_, rfl, trivial⟩, hF⟩ dX11_offer_31
  · have q15 : (-1000) ≤ u1.toInt ∧ u1.toInt ≤ 1000 := by omega
    clear p6
    refine lv_iload_n hx hb dX11_offer_13 rfl (lv_at hl 2 rfl) ?_
    refine lv_sipush (v := (-1000)) hx hb dX11_offer_14 (by decide) ?_
    refine lv_sipush (v := 1000) hx hb dX11_offer_17 (by decide) ?_
    refine t_callS (As := [.int u2, .int (-1000), .int 1000]) (rest := []) E hW (c_X11_within l G cI cJ cZ cD cR cT kp L f2 hW.2.2.2 _ u2 (-1000) 1000 (by decide)) wk_X11_within tw_599 rfl ⟨Nat.le_of_ble_eq_true rfl, Nat.le_of_ble_eq_true rfl⟩ ⟨rfl, rfl⟩ hl.1 rfl (Nat.le_of_ble_eq_true rfl) dX11_offer_20 ⟨Nat.le_of_ble_eq_true rfl, Nat.le_of_ble_eq_true rfl⟩ (fun v16 f17 H locs q18 hW => ?_)
    obtain ⟨⟨x20, rfl, p21⟩, g19⟩ := q18
    have p21 : (x20.toInt = 1 ∧ (-1000) ≤ u2.toInt ∧ u2.toInt ≤ 1000) ∨ (x20.toInt = 0 ∧ (u2.toInt < (-1000) ∨ 1000 < u2.toInt)) := p21
    have hF := FM.tr hF g19 rfl
    refine q_if_ne (tgt := 32) hx hb dX11_offer_23 (by decide) rfl (fun c22 => ?_) (fun c22 => ?_)
    · have q23 : (-1000) ≤ u2.toInt ∧ u2.toInt ≤ 1000 := by omega
      clear p21
      refine lv_aload_n hx hb dX11_offer_32 rfl (lv_at hl 0 rfl) ?_
      refine fg_RX11_12 E hW rh0 dX11_offer_33 (fun a24 m25 r26 => ?_)
      refine fg_RX11_98 E hW r26 dX11_offer_36 (fun a27 m28 r29 => ?_)
      refine fg_RX11_297 E hW r29 dX11_offer_39 (fun y30 m31 b32 => ?_)
      refine lv_bipush (v := 9) hx hb dX11_offer_42 (by decide) ?_
      refine q_icmp_lt (Y := 9) (tgt := 54) hx hb dX11_offer_44 (by decide) rfl rfl (fun c33 => ?_) (fun c33 => ?_)
      · refine lv_aload_n hx hb dX11_offer_54 rfl (lv_at hl 0 rfl) ?_
        refine lv_aload_n hx hb dX11_offer_55 rfl (lv_at hl 0 rfl) ?_
        refine fg_RX11_12 E hW rh0 dX11_offer_56 (fun a34 m35 r36 => ?_)
        obtain rfl : a24 = a34 := (m25).symm.trans m35
        refine fg_RX11_98 E hW r26 dX11_offer_59 (fun a37 m38 r39 => ?_)
        obtain rfl : a27 = a37 := (m28).symm.trans m38
        refine lv_iload_n hx hb dX11_offer_62 rfl (lv_at hl 1 rfl) ?_
        refine lv_iload_n hx hb dX11_offer_63 rfl (lv_at hl 2 rfl) ?_
        refine t_callV (As := [.int u1, .int u2]) (rest := [.ref h0]) E hW (c_X3_addOffer l G cI cJ cZ cD cR cT kp L f17 hW.2.2.2 _ a27 u1 u2 r29 (by omega) (by omega)) r29 (by decide) rfl wk_X3_addOffer tw_1230 rfl ⟨Nat.le_of_ble_eq_true rfl, Nat.le_of_ble_eq_true rfl⟩ ⟨rfl, rfl⟩ hl.1 rfl (Nat.le_of_ble_eq_true rfl) dX11_offer_64 ⟨Nat.le_of_ble_eq_true rfl, Nat.le_of_ble_eq_true rfl⟩ (fun v40 f41 H locs q42 hW => ?_)
        obtain ⟨⟨x44, rfl, p45⟩, g43⟩ := q42
        have hF := FM.tr hF g43 rfl
        refine t_callV (As := [.int x44]) (rest := []) E hW (c_X11_accept l G cI cJ cZ cD cR cT kp L f41 hW.2.2.2 _ h0 x44 rh0) rh0 (by decide) rfl wk_X11_accept tw_611 rfl ⟨Nat.le_of_ble_eq_true rfl, Nat.le_of_ble_eq_true rfl⟩ ⟨rfl, rfl⟩ hl.1 rfl (Nat.le_of_ble_eq_true rfl) dX11_offer_67 ⟨Nat.le_of_ble_eq_true rfl, Nat.le_of_ble_eq_true rfl⟩ (fun v46 f47 H locs q48 hW => ?_)
        obtain ⟨⟨x50, rfl, p51⟩, g49⟩ := q48
        clear p51
        have hF := FM.tr hF g49 rfl
        exact e_I E hW rfl ⟨⟨_, rfl, trivial⟩, hF⟩ dX11_offer_70
      · refine lv_aload_n hx hb dX11_offer_47 rfl (lv_at hl 0 rfl) ?_
        refine lv_bipush (v := (-5)) hx hb dX11_offer_48 (by decide) ?_
        refine t_callV (As := [.int (-5)]) (rest := []) E hW (c_X11_refuse l G cI cJ cZ cD cR cT kp L f17 hW.2.2.2 _ h0 (-5) rh0 (by decide)) rh0 (by decide) rfl wk_X11_refuse tw_603 rfl ⟨Nat.le_of_ble_eq_true rfl, Nat.le_of_ble_eq_true rfl⟩ ⟨rfl, rfl⟩ hl.1 rfl (Nat.le_of_ble_eq_true rfl) dX11_offer_50 ⟨Nat.le_of_ble_eq_true rfl, Nat.le_of_ble_eq_true rfl⟩ (fun v52 f53 H locs q54 hW => ?_)
        obtain ⟨⟨x56, rfl, p57⟩, g55⟩ := q54
        have p57 : (-6 : Int) ≤ x56.toInt ∧ x56.toInt ≤ -1 := p57
        have hF := FM.tr hF g55 rfl
        exact e_I E hW rfl ⟨⟨_, rfl, trivial⟩, hF⟩ dX11_offer_53
    · have q58 : (u2.toInt < (-1000) ∨ 1000 < u2.toInt) := by omega
      clear p21
      refine lv_aload_n hx hb dX11_offer_26 rfl (lv_at hl 0 rfl) ?_
      refine lv_iconst (v := (-1)) hx hb dX11_offer_27 (by decide) ?_
      refine t_callV (As := [.int (-1)]) (rest := []) E hW (c_X11_refuse l G cI cJ cZ cD cR cT kp L f17 hW.2.2.2 _ h0 (-1) rh0 (by decide)) rh0 (by decide) rfl wk_X11_refuse tw_603 rfl ⟨Nat.le_of_ble_eq_true rfl, Nat.le_of_ble_eq_true rfl⟩ ⟨rfl, rfl⟩ hl.1 rfl (Nat.le_of_ble_eq_true rfl) dX11_offer_28 ⟨Nat.le_of_ble_eq_true rfl, Nat.le_of_ble_eq_true rfl⟩ (fun v59 f60 H locs q61 hW => ?_)
      obtain ⟨⟨x63, rfl, p64⟩, g62⟩ := q61
      have p64 : (-6 : Int) ≤ x63.toInt ∧ x63.toInt ≤ -1 := p64
      have hF := FM.tr hF g62 rfl
      exact e_I E hW rfl ⟨⟨_, rfl, trivial⟩, hF⟩ dX11_offer_31
def ms_X11_owner : List (Nat × Nat) := []
def po_X11_owner (kp : Nat → Nat) (L : List Nat) (f0 : Nat → va_E) (h0 : Nat) (u1 : Int32) (u2 : Int32) : Option Value → (Nat → va_E) → Prop := fun v f => (∃ r : Int32, v = some (.int r) ∧ (True)) ∧ FM kp L ms_X11_owner f0 f
set_option maxHeartbeats 4000000 in
set_option maxRecDepth 100000 in
theorem c_X11_owner (l : Launch) (G : va_G) (cI cJ cZ cD cR cT : ClassId) (kp : Nat → Nat) (L : List Nat) (f0 : Nat → va_E) (hTH : TH cI cJ cZ cD cR cT kp L f0) (sz : Nat) (h0 : Nat) (u1 : Int32) (u2 : Int32) (rh0 : RK kp L h0 11) : Met l yX11_owner (Cond.code yX11_owner cX11_owner 4 (some .int) :: wTab) ({ frames := 2, cells := 0, slots := 0, locals := 61 }) (va_Pc [.ref h0, .int u1, .int u2] (PreW G (tys6 cI cJ cZ cD cR cT) (va_pl L f0) sz)) (QT (po_X11_owner kp L f0 h0 u1 u2) G cI cJ cZ cD cR cT (va_A (va_pl L f0) sz) kp L) 0 0 (va_A (va_pl L f0) sz) := by
  refine metT (by decide) (Nat.le_of_ble_eq_true rfl) hTH ?_
  intro p e s m below meth c A ls E hW hl
  obtain ⟨hx, hb, -, hml, hown, hts, -, -, -⟩ := id E
  have hF : FM kp L ms_X11_owner f0 f0 := FM.rf
  have hl : lv_has ls 4 [(0, .ref h0), (1, .int u1), (2, .int u2)] := hl
  refine lv_aload_n hx hb dX11_owner_0 rfl (lv_at hl 0 rfl) ?_
  refine fg_RX11_12 E hW rh0 dX11_owner_1 (fun a1 m2 r3 => ?_)
  refine fg_RX11_114 E hW r3 dX11_owner_4 (fun a4 m5 r6 => ?_)
  refine lv_astore_n (lv' := [(3, .ref a4), (0, .ref h0), (1, .int u1), (2, .int u2)]) hx hb dX11_owner_7 rfl hl (by decide) rfl (fun ls hl => ?_)
  refine lv_aload_n hx hb dX11_owner_8 rfl (lv_at hl 0 rfl) ?_
  refine lv_iload_n hx hb dX11_owner_9 rfl (lv_at hl 2 rfl) ?_
  refine t_callV (As := [.int u1]) (rest := []) E hW (c_X1_hasEstate l G cI cJ cZ cD cR cT kp L f0 hW.2.2.2 _ a4 u1 r6) r6 (by decide) rfl wk_X1_hasEstate tw_659 rfl ⟨Nat.le_of_ble_eq_true rfl, Nat.le_of_ble_eq_true rfl⟩ ⟨rfl, rfl⟩ hl.1 rfl (Nat.le_of_ble_eq_true rfl) dX11_owner_10 ⟨Nat.le_of_ble_eq_true rfl, Nat.le_of_ble_eq_true rfl⟩ (fun v7 f8 H locs q9 hW => ?_)
  obtain ⟨⟨x11, rfl, p12⟩, g10⟩ := q9
  have hF := FM.tr hF g10 rfl
  refine q_if_ne (tgt := 18) hx hb dX11_owner_13 (by decide) rfl (fun c13 => ?_) (fun c13 => ?_)
  · have q14 : 0 ≤ u1.toInt ∧ u1.toInt ≤ 7 := by omega
    clear p12
    refine lv_iload_n hx hb dX11_owner_18 rfl (lv_at hl 3 rfl) ?_
    by_cases c15 : u2.toInt = 0
    · refine lv_lookup (off := 25) (tgt := 44) hx hb dX11_owner_19 (by decide) (by rw [c15]; decide) (by decide) ?_
      refine lv_aload_n hx hb dX11_owner_44 rfl (lv_at hl 0 rfl) ?_
      refine fg_RX11_185 E hW r6 dX11_owner_45 (fun a16 m17 r18 => ?_)
      refine lv_iload_n hx hb dX11_owner_48 rfl (lv_at hl 2 rfl) ?_
      refine gl_169 E hW r18 ⟨by omega, by omega⟩ dX11_owner_49 (fun y19 m20 => ?_)
      exact e_I E hW rfl ⟨⟨_, rfl, trivial⟩, hF⟩ dX11_owner_50
    by_cases c22 : u2.toInt = 1
    · refine lv_lookup (off := 32) (tgt := 51) hx hb dX11_owner_19 (by decide) (by rw [c22]; decide) (by decide) ?_
      refine lv_aload_n hx hb dX11_owner_51 rfl (lv_at hl 0 rfl) ?_
      refine fg_RX11_188 E hW r6 dX11_owner_52 (fun a23 m24 r25 => ?_)
      refine lv_iload_n hx hb dX11_owner_55 rfl (lv_at hl 2 rfl) ?_
      refine gl_171 E hW r25 ⟨by omega, by omega⟩ dX11_owner_56 (fun y26 m27 => ?_)
      exact e_I E hW rfl ⟨⟨_, rfl, trivial⟩, hF⟩ dX11_owner_57
    refine lv_lookup (off := 39) (tgt := 58) hx hb dX11_owner_19 (by decide) (by simp [Op.lookupswitch.offset, List.find?, Ne.symm c15, Ne.symm c22, c15, c22]) (by decide) ?_
    refine lv_iconst (v := (-1)) hx hb dX11_owner_58 (by decide) ?_
    exact e_I E hW rfl ⟨⟨_, rfl, trivial⟩, hF⟩ dX11_owner_59
  · clear p12
    refine lv_iconst (v := (-1)) hx hb dX11_owner_16 (by decide) ?_
    exact e_I E hW rfl ⟨⟨_, rfl, trivial⟩, hF⟩ dX11_owner_17
def ms_X11_person : List (Nat × Nat) := [(4, 0), (11, 15), (341, 0), (342, 0), (343, 0), (344, 0), (345, 0), (346, 0), (347, 0), (348, 0)]
def po_X11_person (kp : Nat → Nat) (L : List Nat) (f0 : Nat → va_E) (h0 : Nat) (u1 : Int32) (u2 : Int32) (u3 : Int32) : Option Value → (Nat → va_E) → Prop := fun v f => (∃ r : Int32, v = some (.int r) ∧ (True)) ∧ FM kp L ms_X11_person f0 f
set_option maxHeartbeats 4000000 in
set_option maxRecDepth 100000 in
theorem c_X11_person (l : Launch) (G : va_G) (cI cJ cZ cD cR cT : ClassId) (kp : Nat → Nat) (L : List Nat) (f0 : Nat → va_E) (hTH : TH cI cJ cZ cD cR cT kp L f0) (sz : Nat) (h0 : Nat) (u1 : Int32) (u2 : Int32) (u3 : Int32) (rh0 : RK kp L h0 11) : Met l yX11_person (Cond.code yX11_person cX11_person 4 (some .int) :: wTab) ({ frames := 2, cells := 0, slots := 0, locals := 64 }) (va_Pc [.ref h0, .int u1, .int u2, .int u3] (PreW G (tys6 cI cJ cZ cD cR cT) (va_pl L f0) sz)) (QT (po_X11_person kp L f0 h0 u1 u2 u3) G cI cJ cZ cD cR cT (va_A (va_pl L f0) sz) kp L) 0 0 (va_A (va_pl L f0) sz) := by
  refine metT (by decide) (Nat.le_of_ble_eq_true rfl) hTH ?_
  intro p e s m below meth c A ls E hW hl
  obtain ⟨hx, hb, -, hml, hown, hts, -, -, -⟩ := id E
  have hF : FM kp L ms_X11_person f0 f0 := FM.rf
  have hl : lv_has ls 4 [(0, .ref h0), (1, .int u1), (2, .int u2), (3, .int u3)] := hl
  refine lv_iload_n hx hb dX11_person_0 rfl (lv_at hl 1 rfl) ?_
  refine lv_iconst (v := 0) hx hb dX11_person_1 (by decide) ?_
  refine lv_bipush (v := 19) hx hb dX11_person_2 (by decide) ?_
  refine t_callS (As := [.int u1, .int 0, .int 19]) (rest := []) E hW (c_X11_within l G cI cJ cZ cD cR cT kp L f0 hW.2.2.2 _ u1 0 19 (by decide)) wk_X11_within tw_599 rfl ⟨Nat.le_of_ble_eq_true rfl, Nat.le_of_ble_eq_true rfl⟩ ⟨rfl, rfl⟩ hl.1 rfl (Nat.le_of_ble_eq_true rfl) dX11_person_4 ⟨Nat.le_of_ble_eq_true rfl, Nat.le_of_ble_eq_true rfl⟩ (fun v1 f2 H locs q3 hW => ?_)
  obtain ⟨⟨x5, rfl, p6⟩, g4⟩ := q3
  have p6 : (x5.toInt = 1 ∧ 0 ≤ u1.toInt ∧ u1.toInt ≤ 19) ∨ (x5.toInt = 0 ∧ (u1.toInt < 0 ∨ 19 < u1.toInt)) := p6
  have hF := FM.tr hF g4 rfl
  refine q_if_eq (tgt := 30) hx hb dX11_person_7 (by decide) rfl (fun c7 => ?_) (fun c7 => ?_)
  · have q8 : (u1.toInt < 0 ∨ 19 < u1.toInt) := by omega
    clear p6
    refine lv_aload_n hx hb dX11_person_30 rfl (lv_at hl 0 rfl) ?_
    refine lv_iconst (v := (-1)) hx hb dX11_person_31 (by decide) ?_
    refine t_callV (As := [.int (-1)]) (rest := []) E hW (c_X11_refuse l G cI cJ cZ cD cR cT kp L f2 hW.2.2.2 _ h0 (-1) rh0 (by decide)) rh0 (by decide) rfl wk_X11_refuse tw_603 rfl ⟨Nat.le_of_ble_eq_true rfl, Nat.le_of_ble_eq_true rfl⟩ ⟨rfl, rfl⟩ hl.1 rfl (Nat.le_of_ble_eq_true rfl) dX11_person_32 ⟨Nat.le_of_ble_eq_true rfl, Nat.le_of_ble_eq_true rfl⟩ (fun v9 f10 H locs q11 hW => ?_)
    obtain ⟨⟨x13, rfl, p14⟩, g12⟩ := q11
    have p14 : (-6 : Int) ≤ x13.toInt ∧ x13.toInt ≤ -1 := p14
    have hF := FM.tr hF g12 rfl
    exact e_I E hW rfl ⟨⟨_, rfl, trivial⟩, hF⟩ dX11_person_35
  · have q15 : 0 ≤ u1.toInt ∧ u1.toInt ≤ 19 := by omega
    clear p6
    refine lv_iload_n hx hb dX11_person_10 rfl (lv_at hl 2 rfl) ?_
    refine lv_iconst (v := 0) hx hb dX11_person_11 (by decide) ?_
    refine lv_ldc (v := 1000000) hx hb hown (hts _ tw_602) dX11_person_12 ?_
    refine t_callS (As := [.int u2, .int 0, .int 1000000]) (rest := []) E hW (c_X11_within l G cI cJ cZ cD cR cT kp L f2 hW.2.2.2 _ u2 0 1000000 (by decide)) wk_X11_within tw_599 rfl ⟨Nat.le_of_ble_eq_true rfl, Nat.le_of_ble_eq_true rfl⟩ ⟨rfl, rfl⟩ hl.1 rfl (Nat.le_of_ble_eq_true rfl) dX11_person_14 ⟨Nat.le_of_ble_eq_true rfl, Nat.le_of_ble_eq_true rfl⟩ (fun v16 f17 H locs q18 hW => ?_)
    obtain ⟨⟨x20, rfl, p21⟩, g19⟩ := q18
    have p21 : (x20.toInt = 1 ∧ 0 ≤ u2.toInt ∧ u2.toInt ≤ 1000000) ∨ (x20.toInt = 0 ∧ (u2.toInt < 0 ∨ 1000000 < u2.toInt)) := p21
    have hF := FM.tr hF g19 rfl
    refine q_if_eq (tgt := 30) hx hb dX11_person_17 (by decide) rfl (fun c22 => ?_) (fun c22 => ?_)
    · have q23 : (u2.toInt < 0 ∨ 1000000 < u2.toInt) := by omega
      clear p21
      refine lv_aload_n hx hb dX11_person_30 rfl (lv_at hl 0 rfl) ?_
      refine lv_iconst (v := (-1)) hx hb dX11_person_31 (by decide) ?_
      refine t_callV (As := [.int (-1)]) (rest := []) E hW (c_X11_refuse l G cI cJ cZ cD cR cT kp L f17 hW.2.2.2 _ h0 (-1) rh0 (by decide)) rh0 (by decide) rfl wk_X11_refuse tw_603 rfl ⟨Nat.le_of_ble_eq_true rfl, Nat.le_of_ble_eq_true rfl⟩ ⟨rfl, rfl⟩ hl.1 rfl (Nat.le_of_ble_eq_true rfl) dX11_person_32 ⟨Nat.le_of_ble_eq_true rfl, Nat.le_of_ble_eq_true rfl⟩ (fun v24 f25 H locs q26 hW => ?_)
      obtain ⟨⟨x28, rfl, p29⟩, g27⟩ := q26
      have p29 : (-6 : Int) ≤ x28.toInt ∧ x28.toInt ≤ -1 := p29
      have hF := FM.tr hF g27 rfl
      exact e_I E hW rfl ⟨⟨_, rfl, trivial⟩, hF⟩ dX11_person_35
    · have q30 : 0 ≤ u2.toInt ∧ u2.toInt ≤ 1000000 := by omega
      clear p21
      refine lv_iload_n hx hb dX11_person_20 rfl (lv_at hl 3 rfl) ?_
      refine lv_iconst (v := 0) hx hb dX11_person_21 (by decide) ?_
      refine lv_bipush (v := 100) hx hb dX11_person_22 (by decide) ?_
      refine t_callS (As := [.int u3, .int 0, .int 100]) (rest := []) E hW (c_X11_within l G cI cJ cZ cD cR cT kp L f17 hW.2.2.2 _ u3 0 100 (by decide)) wk_X11_within tw_599 rfl ⟨Nat.le_of_ble_eq_true rfl, Nat.le_of_ble_eq_true rfl⟩ ⟨rfl, rfl⟩ hl.1 rfl (Nat.le_of_ble_eq_true rfl) dX11_person_24 ⟨Nat.le_of_ble_eq_true rfl, Nat.le_of_ble_eq_true rfl⟩ (fun v31 f32 H locs q33 hW => ?_)
      obtain ⟨⟨x35, rfl, p36⟩, g34⟩ := q33
      have p36 : (x35.toInt = 1 ∧ 0 ≤ u3.toInt ∧ u3.toInt ≤ 100) ∨ (x35.toInt = 0 ∧ (u3.toInt < 0 ∨ 100 < u3.toInt)) := p36
      have hF := FM.tr hF g34 rfl
      refine q_if_ne (tgt := 36) hx hb dX11_person_27 (by decide) rfl (fun c37 => ?_) (fun c37 => ?_)
      · have q38 : 0 ≤ u3.toInt ∧ u3.toInt ≤ 100 := by omega
        clear p36
        refine lv_aload_n hx hb dX11_person_36 rfl (lv_at hl 0 rfl) ?_
        refine fg_RX11_12 E hW rh0 dX11_person_37 (fun a39 m40 r41 => ?_)
        refine fg_RX11_63 E hW r41 dX11_person_40 (fun a42 m43 r44 => ?_)
        refine fg_RX11_67 E hW r44 dX11_person_43 (fun y45 m46 b47 => ?_)
        refine lv_bipush (v := 40) hx hb dX11_person_46 (by decide) ?_
        refine q_icmp_lt (Y := 40) (tgt := 58) hx hb dX11_person_48 (by decide) rfl rfl (fun c48 => ?_) (fun c48 => ?_)
        · refine lv_aload_n hx hb dX11_person_58 rfl (lv_at hl 0 rfl) ?_
          refine lv_aload_n hx hb dX11_person_59 rfl (lv_at hl 0 rfl) ?_
          refine fg_RX11_12 E hW rh0 dX11_person_60 (fun a49 m50 r51 => ?_)
          obtain rfl : a39 = a49 := (m40).symm.trans m50
          refine fg_RX11_63 E hW r41 dX11_person_63 (fun a52 m53 r54 => ?_)
          obtain rfl : a42 = a52 := (m43).symm.trans m53
          refine lv_iload_n hx hb dX11_person_66 rfl (lv_at hl 1 rfl) ?_
          refine lv_iload_n hx hb dX11_person_67 rfl (lv_at hl 2 rfl) ?_
          refine lv_iload_n hx hb dX11_person_68 rfl (lv_at hl 3 rfl) ?_
          refine t_callV (As := [.int u1, .int u2, .int u3]) (rest := [.ref h0]) E hW (c_X4_add l G cI cJ cZ cD cR cT kp L f32 hW.2.2.2 _ a42 u1 u2 u3 r44 (by omega) (by omega) (by omega)) r44 (by decide) rfl wk_X4_add tw_607 rfl ⟨Nat.le_of_ble_eq_true rfl, Nat.le_of_ble_eq_true rfl⟩ ⟨rfl, rfl⟩ hl.1 rfl (Nat.le_of_ble_eq_true rfl) dX11_person_69 ⟨Nat.le_of_ble_eq_true rfl, Nat.le_of_ble_eq_true rfl⟩ (fun v55 f56 H locs q57 hW => ?_)
          obtain ⟨⟨x59, rfl, p60⟩, g58⟩ := q57
          have hF := FM.tr hF g58 rfl
          refine t_callV (As := [.int x59]) (rest := []) E hW (c_X11_accept l G cI cJ cZ cD cR cT kp L f56 hW.2.2.2 _ h0 x59 rh0) rh0 (by decide) rfl wk_X11_accept tw_611 rfl ⟨Nat.le_of_ble_eq_true rfl, Nat.le_of_ble_eq_true rfl⟩ ⟨rfl, rfl⟩ hl.1 rfl (Nat.le_of_ble_eq_true rfl) dX11_person_72 ⟨Nat.le_of_ble_eq_true rfl, Nat.le_of_ble_eq_true rfl⟩ (fun v61 f62 H locs q63 hW => ?_)
          obtain ⟨⟨x65, rfl, p66⟩, g64⟩ := q63
          clear p66
          have hF := FM.tr hF g64 rfl
          exact e_I E hW rfl ⟨⟨_, rfl, trivial⟩, hF⟩ dX11_person_75
        · refine lv_aload_n hx hb dX11_person_51 rfl (lv_at hl 0 rfl) ?_
          refine lv_bipush (v := (-5)) hx hb dX11_person_52 (by decide) ?_
          refine t_callV (As := [.int (-5)]) (rest := []) E hW (c_X11_refuse l G cI cJ cZ cD cR cT kp L f32 hW.2.2.2 _ h0 (-5) rh0 (by decide)) rh0 (by decide) rfl wk_X11_refuse tw_603 rfl ⟨Nat.le_of_ble_eq_true rfl, Nat.le_of_ble_eq_true rfl⟩ ⟨rfl, rfl⟩ hl.1 rfl (Nat.le_of_ble_eq_true rfl) dX11_person_54 ⟨Nat.le_of_ble_eq_true rfl, Nat.le_of_ble_eq_true rfl⟩ (fun v67 f68 H locs q69 hW => ?_)
          obtain ⟨⟨x71, rfl, p72⟩, g70⟩ := q69
          have p72 : (-6 : Int) ≤ x71.toInt ∧ x71.toInt ≤ -1 := p72
          have hF := FM.tr hF g70 rfl
          exact e_I E hW rfl ⟨⟨_, rfl, trivial⟩, hF⟩ dX11_person_57
      · have q73 : (u3.toInt < 0 ∨ 100 < u3.toInt) := by omega
        clear p36
        refine lv_aload_n hx hb dX11_person_30 rfl (lv_at hl 0 rfl) ?_
        refine lv_iconst (v := (-1)) hx hb dX11_person_31 (by decide) ?_
        refine t_callV (As := [.int (-1)]) (rest := []) E hW (c_X11_refuse l G cI cJ cZ cD cR cT kp L f32 hW.2.2.2 _ h0 (-1) rh0 (by decide)) rh0 (by decide) rfl wk_X11_refuse tw_603 rfl ⟨Nat.le_of_ble_eq_true rfl, Nat.le_of_ble_eq_true rfl⟩ ⟨rfl, rfl⟩ hl.1 rfl (Nat.le_of_ble_eq_true rfl) dX11_person_32 ⟨Nat.le_of_ble_eq_true rfl, Nat.le_of_ble_eq_true rfl⟩ (fun v74 f75 H locs q76 hW => ?_)
        obtain ⟨⟨x78, rfl, p79⟩, g77⟩ := q76
        have p79 : (-6 : Int) ≤ x78.toInt ∧ x78.toInt ≤ -1 := p79
        have hF := FM.tr hF g77 rfl
        exact e_I E hW rfl ⟨⟨_, rfl, trivial⟩, hF⟩ dX11_person_35
def ms_X11_price : List (Nat × Nat) := [(11, 15), (520, 0)]
def po_X11_price (kp : Nat → Nat) (L : List Nat) (f0 : Nat → va_E) (h0 : Nat) (u1 : Int32) (u2 : Int32) : Option Value → (Nat → va_E) → Prop := fun v f => (∃ r : Int32, v = some (.int r) ∧ (True)) ∧ FM kp L ms_X11_price f0 f
set_option maxHeartbeats 4000000 in
set_option maxRecDepth 100000 in
theorem c_X11_price (l : Launch) (G : va_G) (cI cJ cZ cD cR cT : ClassId) (kp : Nat → Nat) (L : List Nat) (f0 : Nat → va_E) (hTH : TH cI cJ cZ cD cR cT kp L f0) (sz : Nat) (h0 : Nat) (u1 : Int32) (u2 : Int32) (rh0 : RK kp L h0 11) : Met l yX11_price (Cond.code yX11_price cX11_price 3 (some .int) :: wTab) ({ frames := 2, cells := 0, slots := 0, locals := 62 }) (va_Pc [.ref h0, .int u1, .int u2] (PreW G (tys6 cI cJ cZ cD cR cT) (va_pl L f0) sz)) (QT (po_X11_price kp L f0 h0 u1 u2) G cI cJ cZ cD cR cT (va_A (va_pl L f0) sz) kp L) 0 0 (va_A (va_pl L f0) sz) := by
  refine metT (by decide) (Nat.le_of_ble_eq_true rfl) hTH ?_
  intro p e s m below meth c A ls E hW hl
  obtain ⟨hx, hb, -, hml, hown, hts, -, -, -⟩ := id E
  have hF : FM kp L ms_X11_price f0 f0 := FM.rf
  have hl : lv_has ls 3 [(0, .ref h0), (1, .int u1), (2, .int u2)] := hl
  refine lv_iload_n hx hb dX11_price_0 rfl (lv_at hl 1 rfl) ?_
  refine t_callS (As := [.int u1]) (rest := []) E hW (c_X11_isWeek l G cI cJ cZ cD cR cT kp L f0 hW.2.2.2 _ u1) wk_X11_isWeek tw_780 rfl ⟨Nat.le_of_ble_eq_true rfl, Nat.le_of_ble_eq_true rfl⟩ ⟨rfl, rfl⟩ hl.1 rfl (Nat.le_of_ble_eq_true rfl) dX11_price_1 ⟨Nat.le_of_ble_eq_true rfl, Nat.le_of_ble_eq_true rfl⟩ (fun v1 f2 H locs q3 hW => ?_)
  obtain ⟨⟨x5, rfl, p6⟩, g4⟩ := q3
  have hF := FM.tr hF g4 rfl
  refine q_if_eq (tgt := 18) hx hb dX11_price_4 (by decide) rfl (fun c7 => ?_) (fun c7 => ?_)
  · have q8 : (u1.toInt < 0 ∨ 399 < u1.toInt) := by omega
    clear p6
    refine lv_aload_n hx hb dX11_price_18 rfl (lv_at hl 0 rfl) ?_
    refine lv_iconst (v := (-1)) hx hb dX11_price_19 (by decide) ?_
    refine t_callV (As := [.int (-1)]) (rest := []) E hW (c_X11_refuse l G cI cJ cZ cD cR cT kp L f2 hW.2.2.2 _ h0 (-1) rh0 (by decide)) rh0 (by decide) rfl wk_X11_refuse tw_603 rfl ⟨Nat.le_of_ble_eq_true rfl, Nat.le_of_ble_eq_true rfl⟩ ⟨rfl, rfl⟩ hl.1 rfl (Nat.le_of_ble_eq_true rfl) dX11_price_20 ⟨Nat.le_of_ble_eq_true rfl, Nat.le_of_ble_eq_true rfl⟩ (fun v9 f10 H locs q11 hW => ?_)
    obtain ⟨⟨x13, rfl, p14⟩, g12⟩ := q11
    have p14 : (-6 : Int) ≤ x13.toInt ∧ x13.toInt ≤ -1 := p14
    have hF := FM.tr hF g12 rfl
    exact e_I E hW rfl ⟨⟨_, rfl, trivial⟩, hF⟩ dX11_price_23
  · have q15 : 0 ≤ u1.toInt ∧ u1.toInt ≤ 399 := by omega
    clear p6
    refine lv_iload_n hx hb dX11_price_7 rfl (lv_at hl 2 rfl) ?_
    refine lv_iconst (v := 0) hx hb dX11_price_8 (by decide) ?_
    refine lv_sipush (v := 10000) hx hb dX11_price_9 (by decide) ?_
    refine t_callS (As := [.int u2, .int 0, .int 10000]) (rest := []) E hW (c_X11_within l G cI cJ cZ cD cR cT kp L f2 hW.2.2.2 _ u2 0 10000 (by decide)) wk_X11_within tw_599 rfl ⟨Nat.le_of_ble_eq_true rfl, Nat.le_of_ble_eq_true rfl⟩ ⟨rfl, rfl⟩ hl.1 rfl (Nat.le_of_ble_eq_true rfl) dX11_price_12 ⟨Nat.le_of_ble_eq_true rfl, Nat.le_of_ble_eq_true rfl⟩ (fun v16 f17 H locs q18 hW => ?_)
    obtain ⟨⟨x20, rfl, p21⟩, g19⟩ := q18
    have p21 : (x20.toInt = 1 ∧ 0 ≤ u2.toInt ∧ u2.toInt ≤ 10000) ∨ (x20.toInt = 0 ∧ (u2.toInt < 0 ∨ 10000 < u2.toInt)) := p21
    have hF := FM.tr hF g19 rfl
    refine q_if_ne (tgt := 24) hx hb dX11_price_15 (by decide) rfl (fun c22 => ?_) (fun c22 => ?_)
    · have q23 : 0 ≤ u2.toInt ∧ u2.toInt ≤ 10000 := by omega
      clear p21
      refine lv_aload_n hx hb dX11_price_24 rfl (lv_at hl 0 rfl) ?_
      refine fg_RX11_12 E hW rh0 dX11_price_25 (fun a24 m25 r26 => ?_)
      refine fg_RX11_194 E hW r26 dX11_price_28 (fun a27 m28 r29 => ?_)
      refine fg_RX11_198 E hW r29 dX11_price_31 (fun a30 m31 r32 => ?_)
      refine lv_iload_n hx hb dX11_price_34 rfl (lv_at hl 1 rfl) ?_
      refine lv_iload_n hx hb dX11_price_35 rfl (lv_at hl 2 rfl) ?_
      refine gs_520 E hW r32 ⟨by omega, by omega⟩ dX11_price_36 (fun f33 H locs e34 n35 g36 hW => ?_)
      have hF := FM.tr hF g36 rfl
      refine lv_aload_n hx hb dX11_price_37 rfl (lv_at hl 0 rfl) ?_
      refine lv_iconst (v := 0) hx hb dX11_price_38 (by decide) ?_
      refine t_callV (As := [.int 0]) (rest := []) E hW (c_X11_accept l G cI cJ cZ cD cR cT kp L f33 hW.2.2.2 _ h0 0 rh0) rh0 (by decide) rfl wk_X11_accept tw_611 rfl ⟨Nat.le_of_ble_eq_true rfl, Nat.le_of_ble_eq_true rfl⟩ ⟨rfl, rfl⟩ hl.1 rfl (Nat.le_of_ble_eq_true rfl) dX11_price_39 ⟨Nat.le_of_ble_eq_true rfl, Nat.le_of_ble_eq_true rfl⟩ (fun v37 f38 H locs q39 hW => ?_)
      obtain ⟨⟨x41, rfl, p42⟩, g40⟩ := q39
      clear p42
      have hF := FM.tr hF g40 rfl
      exact e_I E hW rfl ⟨⟨_, rfl, trivial⟩, hF⟩ dX11_price_42
    · have q43 : (u2.toInt < 0 ∨ 10000 < u2.toInt) := by omega
      clear p21
      refine lv_aload_n hx hb dX11_price_18 rfl (lv_at hl 0 rfl) ?_
      refine lv_iconst (v := (-1)) hx hb dX11_price_19 (by decide) ?_
      refine t_callV (As := [.int (-1)]) (rest := []) E hW (c_X11_refuse l G cI cJ cZ cD cR cT kp L f17 hW.2.2.2 _ h0 (-1) rh0 (by decide)) rh0 (by decide) rfl wk_X11_refuse tw_603 rfl ⟨Nat.le_of_ble_eq_true rfl, Nat.le_of_ble_eq_true rfl⟩ ⟨rfl, rfl⟩ hl.1 rfl (Nat.le_of_ble_eq_true rfl) dX11_price_20 ⟨Nat.le_of_ble_eq_true rfl, Nat.le_of_ble_eq_true rfl⟩ (fun v44 f45 H locs q46 hW => ?_)
      obtain ⟨⟨x48, rfl, p49⟩, g47⟩ := q46
      have p49 : (-6 : Int) ≤ x48.toInt ∧ x48.toInt ≤ -1 := p49
      have hF := FM.tr hF g47 rfl
      exact e_I E hW rfl ⟨⟨_, rfl, trivial⟩, hF⟩ dX11_price_23
def ms_X8_floats : List (Nat × Nat) := []
def po_X8_floats (kp : Nat → Nat) (L : List Nat) (f0 : Nat → va_E) (h0 : Nat) : Option Value → (Nat → va_E) → Prop := fun v f => (∃ r : Int32, v = some (.int r) ∧ ((0 : Int) ≤ r.toInt ∧ r.toInt ≤ 100)) ∧ FM kp L ms_X8_floats f0 f
set_option maxHeartbeats 4000000 in
set_option maxRecDepth 100000 in
theorem c_X8_floats (l : Launch) (G : va_G) (cI cJ cZ cD cR cT : ClassId) (kp : Nat → Nat) (L : List Nat) (f0 : Nat → va_E) (hTH : TH cI cJ cZ cD cR cT kp L f0) (sz : Nat) (h0 : Nat) (rh0 : RK kp L h0 8) : Met l yX8_floats (Cond.code yX8_floats cX8_floats 1 (some .int) :: wTab) ({ frames := 1, cells := 0, slots := 0, locals := 40 }) (va_Pc [.ref h0] (PreW G (tys6 cI cJ cZ cD cR cT) (va_pl L f0) sz)) (QT (po_X8_floats kp L f0 h0) G cI cJ cZ cD cR cT (va_A (va_pl L f0) sz) kp L) 0 0 (va_A (va_pl L f0) sz) := by
  refine metT (by decide) (Nat.le_of_ble_eq_true rfl) hTH ?_
  intro p e s m below meth c A ls E hW hl
  obtain ⟨hx, hb, -, hml, hown, hts, -, -, -⟩ := id E
  have hF : FM kp L ms_X8_floats f0 f0 := FM.rf
  have hl : lv_has ls 1 [(0, .ref h0)] := hl
  refine lv_aload_n hx hb dX8_floats_0 rfl (lv_at hl 0 rfl) ?_
  refine fg_RX8_19 E hW rh0 dX8_floats_1 (fun y1 m2 b3 => ?_)
  refine lv_iconst (v := 3) hx hb dX8_floats_4 (by decide) ?_
  refine q_iadd (Y := 3) hx hb dX8_floats_5 rfl rfl (by omega) (fun x4 h5 => ?_)
  refine lv_iconst (v := 4) hx hb dX8_floats_6 (by decide) ?_
  refine q_idiv (Y := 4) hx hb dX8_floats_7 rfl rfl (by omega) (by omega) (fun x6 h7 => ?_)
  exact e_I E hW rfl ⟨⟨_, rfl, (by first | omega | trivial)⟩, hF⟩ dX8_floats_8
def ms_X11_whyNoRow : List (Nat × Nat) := []
def po_X11_whyNoRow (kp : Nat → Nat) (L : List Nat) (f0 : Nat → va_E) (h0 : Nat) (u1 : Int32) (u2 : Int32) : Option Value → (Nat → va_E) → Prop := fun v f => (∃ r : Int32, v = some (.int r) ∧ ((-6 : Int) ≤ r.toInt ∧ r.toInt ≤ 0)) ∧ FM kp L ms_X11_whyNoRow f0 f
set_option maxHeartbeats 4000000 in
set_option maxRecDepth 100000 in
theorem c_X11_whyNoRow (l : Launch) (G : va_G) (cI cJ cZ cD cR cT : ClassId) (kp : Nat → Nat) (L : List Nat) (f0 : Nat → va_E) (hTH : TH cI cJ cZ cD cR cT kp L f0) (sz : Nat) (h0 : Nat) (u1 : Int32) (u2 : Int32) (rh0 : RK kp L h0 11) : Met l yX11_whyNoRow (Cond.code yX11_whyNoRow cX11_whyNoRow 4 (some .int) :: wTab) ({ frames := 2, cells := 0, slots := 0, locals := 61 }) (va_Pc [.ref h0, .int u1, .int u2] (PreW G (tys6 cI cJ cZ cD cR cT) (va_pl L f0) sz)) (QT (po_X11_whyNoRow kp L f0 h0 u1 u2) G cI cJ cZ cD cR cT (va_A (va_pl L f0) sz) kp L) 0 0 (va_A (va_pl L f0) sz) := by
  refine metT (by decide) (Nat.le_of_ble_eq_true rfl) hTH ?_
  intro p e s m below meth c A ls E hW hl
  obtain ⟨hx, hb, -, hml, hown, hts, -, -, -⟩ := id E
  have hF : FM kp L ms_X11_whyNoRow f0 f0 := FM.rf
  have hl : lv_has ls 4 [(0, .ref h0), (1, .int u1), (2, .int u2)] := hl
  refine lv_iload_n hx hb dX11_whyNoRow_0 rfl (lv_at hl 1 rfl) ?_
  refine t_callS (As := [.int u1]) (rest := []) E hW (c_X11_isWeek l G cI cJ cZ cD cR cT kp L f0 hW.2.2.2 _ u1) wk_X11_isWeek tw_780 rfl ⟨Nat.le_of_ble_eq_true rfl, Nat.le_of_ble_eq_true rfl⟩ ⟨rfl, rfl⟩ hl.1 rfl (Nat.le_of_ble_eq_true rfl) dX11_whyNoRow_1 ⟨Nat.le_of_ble_eq_true rfl, Nat.le_of_ble_eq_true rfl⟩ (fun v1 f2 H locs q3 hW => ?_)
  obtain ⟨⟨x5, rfl, p6⟩, g4⟩ := q3
  have hF := FM.tr hF g4 rfl
  refine q_if_ne (tgt := 9) hx hb dX11_whyNoRow_4 (by decide) rfl (fun c7 => ?_) (fun c7 => ?_)
  · have q8 : 0 ≤ u1.toInt ∧ u1.toInt ≤ 399 := by omega
    clear p6
    refine lv_aload_n hx hb dX11_whyNoRow_9 rfl (lv_at hl 0 rfl) ?_
    refine fg_RX11_12 E hW rh0 dX11_whyNoRow_10 (fun a9 m10 r11 => ?_)
    refine fg_RX11_114 E hW r11 dX11_whyNoRow_13 (fun a12 m13 r14 => ?_)
    refine lv_iload_n hx hb dX11_whyNoRow_16 rfl (lv_at hl 2 rfl) ?_
    refine t_callV (As := [.int u2]) (rest := []) E hW (c_X1_has l G cI cJ cZ cD cR cT kp L f2 hW.2.2.2 _ a12 u2 r14) r14 (by decide) rfl wk_X1_has tw_683 rfl ⟨Nat.le_of_ble_eq_true rfl, Nat.le_of_ble_eq_true rfl⟩ ⟨rfl, rfl⟩ hl.1 rfl (Nat.le_of_ble_eq_true rfl) dX11_whyNoRow_17 ⟨Nat.le_of_ble_eq_true rfl, Nat.le_of_ble_eq_true rfl⟩ (fun v15 f16 H locs q17 hW => ?_)
    obtain ⟨⟨x19, rfl, p20⟩, g18⟩ := q17
    have hF := FM.tr hF g18 rfl
    refine q_if_ne (tgt := 26) hx hb dX11_whyNoRow_20 (by decide) rfl (fun c21 => ?_) (fun c21 => ?_)
    · have q22 : 0 ≤ u2.toInt ∧ u2.toInt ≤ 39 := by omega
      clear p20
      refine lv_iload_n hx hb dX11_whyNoRow_26 rfl (lv_at hl 1 rfl) ?_
      refine lv_aload_n hx hb dX11_whyNoRow_27 rfl (lv_at hl 0 rfl) ?_
      refine fg_RX11_12 E hW rh0 dX11_whyNoRow_28 (fun a23 m24 r25 => ?_)
      obtain rfl : a9 = a23 := (((fm_R g18 rh0 rfl).trans m10)).symm.trans m24
      refine fg_RX11_255 E hW r11 dX11_whyNoRow_31 (fun y26 m27 b28 => ?_)
      refine q_icmp_ge (tgt := 40) hx hb dX11_whyNoRow_34 (by decide) rfl rfl (fun c29 => ?_) (fun c29 => ?_)
      · refine lv_aload_n hx hb dX11_whyNoRow_40 rfl (lv_at hl 0 rfl) ?_
        refine fg_RX11_12 E hW rh0 dX11_whyNoRow_41 (fun a30 m31 r32 => ?_)
        obtain rfl : a9 = a30 := (m24).symm.trans m31
        refine fg_RX11_194 E hW r11 dX11_whyNoRow_44 (fun a33 m34 r35 => ?_)
        refine fg_RX11_359 E hW r35 dX11_whyNoRow_47 (fun a36 m37 r38 => ?_)
        refine lv_iload_n hx hb dX11_whyNoRow_50 rfl (lv_at hl 1 rfl) ?_
        refine gl_521 E hW r38 ⟨by omega, by omega⟩ dX11_whyNoRow_51 (fun o39 m41 k40 => ?_)
        rcases o39 with _ | a42
        · have hl : lv_has ls 4 [(0, .ref h0), (1, .int u1), (2, .int u2)] := hl
          show W p l e ({ frames := 2, cells := 0, slots := 0, locals := 61 }) s m ([.ref h0, .int u1, .int u2] : List Value).toArray below meth c _ _ 0 0 (MQ below (QT (po_X11_whyNoRow kp L f0 h0 u1 u2) G cI cJ cZ cD cR cT A kp L) ([.ref h0, .int u1, .int u2] : List Value).toArray s 0 0 A) (F0 m 52 ls [.null])
          refine lv_ifnullN (tgt := 58) hx hb dX11_whyNoRow_52 (by decide) ?_
          refine lv_aload_n hx hb dX11_whyNoRow_58 rfl (lv_at hl 0 rfl) ?_
          refine fg_RX11_30 E hW rh0 dX11_whyNoRow_59 (fun a44 m45 r46 => ?_)
          refine t_callV (As := []) (rest := []) E hW (c_X8_floats l G cI cJ cZ cD cR cT kp L f16 hW.2.2.2 _ a44 r46) r46 (by decide) rfl wk_X8_floats tw_791 rfl ⟨Nat.le_of_ble_eq_true rfl, Nat.le_of_ble_eq_true rfl⟩ ⟨rfl, rfl⟩ hl.1 rfl (Nat.le_of_ble_eq_true rfl) dX11_whyNoRow_62 ⟨Nat.le_of_ble_eq_true rfl, Nat.le_of_ble_eq_true rfl⟩ (fun v47 f48 H locs q49 hW => ?_)
          obtain ⟨⟨x51, rfl, p52⟩, g50⟩ := q49
          have hF := FM.tr hF g50 rfl
          refine lv_istore_n (lv' := [(3, .int x51), (0, .ref h0), (1, .int u1), (2, .int u2)]) hx hb dX11_whyNoRow_65 rfl hl (by decide) rfl (fun ls hl => ?_)
          refine lv_iload_n hx hb dX11_whyNoRow_66 rfl (lv_at hl 0 rfl) ?_
          have J67 : ∀ (y65 : Int32) (b66 : (-6 : Int) ≤ y65.toInt ∧ y65.toInt ≤ 0) (H : Heap) (locs : List Loc) (ls : Array Slot), WS G cI cJ cZ cD cR cT A kp L f48 s H locs → FM kp L ms_X11_whyNoRow f0 f48 → lv_has ls 4 [(3, .int x51), (0, .ref h0), (1, .int u1), (2, .int u2)] → W p l e ({ frames := 2, cells := 0, slots := 0, locals := 61 }) s m ([.ref h0, .int u1, .int u2] : List Value).toArray below meth c H locs 0 0 (MQ below (QT (po_X11_whyNoRow kp L f0 h0 u1 u2) G cI cJ cZ cD cR cT A kp L) ([.ref h0, .int u1, .int u2] : List Value).toArray s 0 0 A) (F0 m 92 ls [.int y65]) := by
            intro y65 b66 H locs ls hW hF hl
            clear c7 c21
            exact e_I E hW rfl ⟨⟨_, rfl, (by first | omega | trivial)⟩, hF⟩ dX11_whyNoRow_92
          refine q_if_eq (tgt := 86) hx hb dX11_whyNoRow_67 (by decide) rfl (fun c68 => ?_) (fun c68 => ?_)
          · refine lv_bipush (v := (-6)) hx hb dX11_whyNoRow_86 (by decide) ?_
            refine lv_goto (tgt := 92) hx hb dX11_whyNoRow_88 (by decide) ?_
            exact J67 (-6) (by decide) _ _ _ hW hF (lv_sub hl [0, 1, 2, 3] rfl)
          · refine lv_iload_n hx hb dX11_whyNoRow_70 rfl (lv_at hl 0 rfl) ?_
            refine lv_aload_n hx hb dX11_whyNoRow_71 rfl (lv_at hl 1 rfl) ?_
            refine fg_RX11_12 E hW rh0 dX11_whyNoRow_72 (fun a69 m70 r71 => ?_)
            obtain rfl : a9 = a69 := (((fm_R g50 rh0 rfl).trans m31)).symm.trans m70
            refine fg_RX11_114 E hW r11 dX11_whyNoRow_75 (fun a72 m73 r74 => ?_)
            obtain rfl : a12 = a72 := (((fm_R g50 r11 rfl).trans ((fm_R g18 r11 rfl).trans m13))).symm.trans m73
            refine fg_RX11_130 E hW r14 dX11_whyNoRow_78 (fun y75 m76 b77 => ?_)
            refine lv_iload_n hx hb dX11_whyNoRow_81 rfl (lv_at hl 3 rfl) ?_
            refine q_isub hx hb dX11_whyNoRow_82 rfl rfl (by omega) (fun x78 h79 => ?_)
            refine q_icmp_le (tgt := 91) hx hb dX11_whyNoRow_83 (by decide) rfl rfl (fun c80 => ?_) (fun c80 => ?_)
            · refine lv_iconst (v := 0) hx hb dX11_whyNoRow_91 (by decide) ?_
              exact J67 0 (by decide) _ _ _ hW hF (lv_sub hl [0, 1, 2, 3] rfl)
            · refine lv_bipush (v := (-6)) hx hb dX11_whyNoRow_86 (by decide) ?_
              refine lv_goto (tgt := 92) hx hb dX11_whyNoRow_88 (by decide) ?_
              exact J67 (-6) (by decide) _ _ _ hW hF (lv_sub hl [0, 1, 2, 3] rfl)
        · have r43 : RK kp L a42 6 := k40 _ rfl
          have hl : lv_has ls 4 [(0, .ref h0), (1, .int u1), (2, .int u2)] := hl
          show W p l e ({ frames := 2, cells := 0, slots := 0, locals := 61 }) s m ([.ref h0, .int u1, .int u2] : List Value).toArray below meth c _ _ 0 0 (MQ below (QT (po_X11_whyNoRow kp L f0 h0 u1 u2) G cI cJ cZ cD cR cT A kp L) ([.ref h0, .int u1, .int u2] : List Value).toArray s 0 0 A) (F0 m 52 ls [.ref a42])
          refine lv_ifnull hx hb dX11_whyNoRow_52 ?_
          refine lv_bipush (v := (-4)) hx hb dX11_whyNoRow_55 (by decide) ?_
          exact e_I E hW rfl ⟨⟨_, rfl, (by have hk : ((-4) : Int32).toInt = -4 := rfl; first | decide | omega)⟩, hF⟩ dX11_whyNoRow_57
      · refine lv_bipush (v := (-3)) hx hb dX11_whyNoRow_37 (by decide) ?_
        exact e_I E hW rfl ⟨⟨_, rfl, (by have hk : ((-3) : Int32).toInt = -3 := rfl; first | decide | omega)⟩, hF⟩ dX11_whyNoRow_39
    · clear p20
      refine lv_bipush (v := (-2)) hx hb dX11_whyNoRow_23 (by decide) ?_
      exact e_I E hW rfl ⟨⟨_, rfl, (by have hk : ((-2) : Int32).toInt = -2 := rfl; first | decide | omega)⟩, hF⟩ dX11_whyNoRow_25
  · have q81 : (u1.toInt < 0 ∨ 399 < u1.toInt) := by omega
    clear p6
    refine lv_iconst (v := (-1)) hx hb dX11_whyNoRow_7 (by decide) ?_
    exact e_I E hW rfl ⟨⟨_, rfl, (by have hk : ((-1) : Int32).toInt = -1 := rfl; first | decide | omega)⟩, hF⟩ dX11_whyNoRow_8
def ms_X11_seal : List (Nat × Nat) := [(1, 12), (1, 13), (1, 14)]
def po_X11_seal (kp : Nat → Nat) (L : List Nat) (f0 : Nat → va_E) (h0 : Nat) : Option Value → (Nat → va_E) → Prop := fun v f => (∃ r : Int32, v = some (.int r) ∧ ((0 : Int) ≤ r.toInt ∧ r.toInt ≤ 40)) ∧ FM kp L ms_X11_seal f0 f
set_option maxHeartbeats 4000000 in
set_option maxRecDepth 100000 in
theorem c_X11_seal (l : Launch) (G : va_G) (cI cJ cZ cD cR cT : ClassId) (kp : Nat → Nat) (L : List Nat) (f0 : Nat → va_E) (hTH : TH cI cJ cZ cD cR cT kp L f0) (sz : Nat) (h0 : Nat) (rh0 : RK kp L h0 11) : Met l yX11_seal (Cond.code yX11_seal cX11_seal 1 (some .int) :: wTab) ({ frames := 3, cells := 0, slots := 0, locals := 83 }) (va_Pc [.ref h0] (PreW G (tys6 cI cJ cZ cD cR cT) (va_pl L f0) sz)) (QT (po_X11_seal kp L f0 h0) G cI cJ cZ cD cR cT (va_A (va_pl L f0) sz) kp L) 0 0 (va_A (va_pl L f0) sz) := by
  refine metT (by decide) (Nat.le_of_ble_eq_true rfl) hTH ?_
  intro p e s m below meth c A ls E hW hl
  obtain ⟨hx, hb, -, hml, hown, hts, -, -, -⟩ := id E
  have hF : FM kp L ms_X11_seal f0 f0 := FM.rf
  have hl : lv_has ls 1 [(0, .ref h0)] := hl
  refine lv_aload_n hx hb dX11_seal_0 rfl (lv_at hl 0 rfl) ?_
  refine fg_RX11_12 E hW rh0 dX11_seal_1 (fun a1 m2 r3 => ?_)
  refine fg_RX11_114 E hW r3 dX11_seal_4 (fun a4 m5 r6 => ?_)
  refine t_callV (As := []) (rest := []) E hW (c_X1_keepSums l G cI cJ cZ cD cR cT kp L f0 hW.2.2.2 _ a4 r6) r6 (by decide) rfl wk_X1_keepSums tw_1344 rfl ⟨Nat.le_of_ble_eq_true rfl, Nat.le_of_ble_eq_true rfl⟩ ⟨rfl, rfl⟩ hl.1 rfl (Nat.le_of_ble_eq_true rfl) dX11_seal_7 ⟨Nat.le_of_ble_eq_true rfl, Nat.le_of_ble_eq_true rfl⟩ (fun v7 f8 H locs q9 hW => ?_)
  obtain ⟨rfl, g10⟩ := q9
  have hF := FM.tr hF g10 rfl
  refine lv_aload_n hx hb dX11_seal_10 rfl (lv_at hl 0 rfl) ?_
  refine fg_RX11_12 E hW rh0 dX11_seal_11 (fun a11 m12 r13 => ?_)
  obtain rfl : a1 = a11 := (((fm_R g10 rh0 rfl).trans m2)).symm.trans m12
  refine fg_RX11_114 E hW r3 dX11_seal_14 (fun a14 m15 r16 => ?_)
  obtain rfl : a4 = a14 := (((fm_R g10 r3 rfl).trans m5)).symm.trans m15
  refine fg_RX11_130 E hW r6 dX11_seal_17 (fun y17 m18 b19 => ?_)
  exact e_I E hW rfl ⟨⟨_, rfl, (by first | omega | trivial)⟩, hF⟩ dX11_seal_20
def ms_X11_status : List (Nat × Nat) := []
def po_X11_status (kp : Nat → Nat) (L : List Nat) (f0 : Nat → va_E) (h0 : Nat) : Option Value → (Nat → va_E) → Prop := fun v f => (∃ r : Int32, v = some (.int r) ∧ (True)) ∧ FM kp L ms_X11_status f0 f
set_option maxHeartbeats 4000000 in
set_option maxRecDepth 100000 in
theorem c_X11_status (l : Launch) (G : va_G) (cI cJ cZ cD cR cT : ClassId) (kp : Nat → Nat) (L : List Nat) (f0 : Nat → va_E) (hTH : TH cI cJ cZ cD cR cT kp L f0) (sz : Nat) (h0 : Nat) (rh0 : RK kp L h0 11) : Met l yX11_status (Cond.code yX11_status cX11_status 1 (some .int) :: wTab) ({ frames := 1, cells := 0, slots := 0, locals := 40 }) (va_Pc [.ref h0] (PreW G (tys6 cI cJ cZ cD cR cT) (va_pl L f0) sz)) (QT (po_X11_status kp L f0 h0) G cI cJ cZ cD cR cT (va_A (va_pl L f0) sz) kp L) 0 0 (va_A (va_pl L f0) sz) := by
  refine metT (by decide) (Nat.le_of_ble_eq_true rfl) hTH ?_
  intro p e s m below meth c A ls E hW hl
  obtain ⟨hx, hb, -, hml, hown, hts, -, -, -⟩ := id E
  have hF : FM kp L ms_X11_status f0 f0 := FM.rf
  have hl : lv_has ls 1 [(0, .ref h0)] := hl
  refine lv_aload_n hx hb dX11_status_0 rfl (lv_at hl 0 rfl) ?_
  refine fg_RX11_356 E hW rh0 dX11_status_1 (fun y1 m2 => ?_)
  exact e_I E hW rfl ⟨⟨_, rfl, trivial⟩, hF⟩ dX11_status_4
def ms_X11_take : List (Nat × Nat) := [(0, 14), (11, 15), (115, 0), (164, 0), (166, 0), (222, 0), (223, 0), (347, 0)]
def po_X11_take (kp : Nat → Nat) (L : List Nat) (f0 : Nat → va_E) (h0 : Nat) (u1 : Int32) (u2 : Int32) (u3 : Int32) : Option Value → (Nat → va_E) → Prop := fun v f => (∃ r : Int32, v = some (.int r) ∧ (True)) ∧ FM kp L ms_X11_take f0 f
set_option maxHeartbeats 4000000 in
set_option maxRecDepth 100000 in
theorem c_X11_take (l : Launch) (G : va_G) (cI cJ cZ cD cR cT : ClassId) (kp : Nat → Nat) (L : List Nat) (f0 : Nat → va_E) (hTH : TH cI cJ cZ cD cR cT kp L f0) (sz : Nat) (h0 : Nat) (u1 : Int32) (u2 : Int32) (u3 : Int32) (rh0 : RK kp L h0 11) : Met l yX11_take (Cond.code yX11_take cX11_take 7 (some .int) :: wTab) ({ frames := 5, cells := 0, slots := 0, locals := 143 }) (va_Pc [.ref h0, .int u1, .int u2, .int u3] (PreW G (tys6 cI cJ cZ cD cR cT) (va_pl L f0) sz)) (QT (po_X11_take kp L f0 h0 u1 u2 u3) G cI cJ cZ cD cR cT (va_A (va_pl L f0) sz) kp L) 0 0 (va_A (va_pl L f0) sz) := by
  refine metT (by decide) (Nat.le_of_ble_eq_true rfl) hTH ?_
  intro p e s m below meth c A ls E hW hl
  obtain ⟨hx, hb, -, hml, hown, hts, -, -, -⟩ := id E
  have hF : FM kp L ms_X11_take f0 f0 := FM.rf
  have hl : lv_has ls 7 [(0, .ref h0), (1, .int u1), (2, .int u2), (3, .int u3)] := hl
  refine lv_aload_n hx hb dX11_take_0 rfl (lv_at hl 0 rfl) ?_
  refine fg_RX11_12 E hW rh0 dX11_take_1 (fun a1 m2 r3 => ?_)
  refine fg_RX11_114 E hW r3 dX11_take_4 (fun a4 m5 r6 => ?_)
  refine lv_astore (lv' := [(4, .ref a4), (0, .ref h0), (1, .int u1), (2, .int u2), (3, .int u3)]) hx hb dX11_take_7 hl (by decide) rfl (fun ls hl => ?_)
  refine lv_iload_n hx hb dX11_take_9 rfl (lv_at hl 4 rfl) ?_
  refine lv_iconst (v := 0) hx hb dX11_take_10 (by decide) ?_
  refine lv_iconst (v := 1) hx hb dX11_take_11 (by decide) ?_
  refine t_callS (As := [.int u3, .int 0, .int 1]) (rest := []) E hW (c_X11_within l G cI cJ cZ cD cR cT kp L f0 hW.2.2.2 _ u3 0 1 (by decide)) wk_X11_within tw_599 rfl ⟨Nat.le_of_ble_eq_true rfl, Nat.le_of_ble_eq_true rfl⟩ ⟨rfl, rfl⟩ hl.1 rfl (Nat.le_of_ble_eq_true rfl) dX11_take_12 ⟨Nat.le_of_ble_eq_true rfl, Nat.le_of_ble_eq_true rfl⟩ (fun v7 f8 H locs q9 hW => ?_)
  obtain ⟨⟨x11, rfl, p12⟩, g10⟩ := q9
  have p12 : (x11.toInt = 1 ∧ 0 ≤ u3.toInt ∧ u3.toInt ≤ 1) ∨ (x11.toInt = 0 ∧ (u3.toInt < 0 ∨ 1 < u3.toInt)) := p12
  have hF := FM.tr hF g10 rfl
  refine q_if_ne (tgt := 24) hx hb dX11_take_15 (by decide) rfl (fun c13 => ?_) (fun c13 => ?_)
  · have q14 : 0 ≤ u3.toInt ∧ u3.toInt ≤ 1 := by omega
    clear p12
    refine lv_aload_n hx hb dX11_take_24 rfl (lv_at hl 1 rfl) ?_
    refine fg_RX11_12 E hW rh0 dX11_take_25 (fun a15 m16 r17 => ?_)
    obtain rfl : a1 = a15 := (((fm_R g10 rh0 rfl).trans m2)).symm.trans m16
    refine fg_RX11_63 E hW r3 dX11_take_28 (fun a18 m19 r20 => ?_)
    refine lv_iload_n hx hb dX11_take_31 rfl (lv_at hl 2 rfl) ?_
    refine t_callV (As := [.int u1]) (rest := []) E hW (c_X4_has l G cI cJ cZ cD cR cT kp L f8 hW.2.2.2 _ a18 u1 r20) r20 (by decide) rfl wk_X4_has tw_619 rfl ⟨Nat.le_of_ble_eq_true rfl, Nat.le_of_ble_eq_true rfl⟩ ⟨rfl, rfl⟩ hl.1 rfl (Nat.le_of_ble_eq_true rfl) dX11_take_32 ⟨Nat.le_of_ble_eq_true rfl, Nat.le_of_ble_eq_true rfl⟩ (fun v21 f22 H locs q23 hW => ?_)
    obtain ⟨⟨x25, rfl, p26⟩, g24⟩ := q23
    have hF := FM.tr hF g24 rfl
    refine q_if_eq (tgt := 47) hx hb dX11_take_35 (by decide) rfl (fun c27 => ?_) (fun c27 => ?_)
    · clear p26
      refine lv_aload_n hx hb dX11_take_47 rfl (lv_at hl 1 rfl) ?_
      refine lv_bipush (v := (-2)) hx hb dX11_take_48 (by decide) ?_
      refine t_callV (As := [.int (-2)]) (rest := []) E hW (c_X11_refuse l G cI cJ cZ cD cR cT kp L f22 hW.2.2.2 _ h0 (-2) rh0 (by decide)) rh0 (by decide) rfl wk_X11_refuse tw_603 rfl ⟨Nat.le_of_ble_eq_true rfl, Nat.le_of_ble_eq_true rfl⟩ ⟨rfl, rfl⟩ hl.1 rfl (Nat.le_of_ble_eq_true rfl) dX11_take_50 ⟨Nat.le_of_ble_eq_true rfl, Nat.le_of_ble_eq_true rfl⟩ (fun v28 f29 H locs q30 hW => ?_)
      obtain ⟨⟨x32, rfl, p33⟩, g31⟩ := q30
      have p33 : (-6 : Int) ≤ x32.toInt ∧ x32.toInt ≤ -1 := p33
      have hF := FM.tr hF g31 rfl
      exact e_I E hW rfl ⟨⟨_, rfl, trivial⟩, hF⟩ dX11_take_53
    · have q34 : 0 ≤ u1.toInt ∧ u1.toInt ≤ 39 := by omega
      clear p26
      refine lv_aload hx hb dX11_take_38 (lv_at hl 0 rfl) ?_
      refine lv_iload_n hx hb dX11_take_40 rfl (lv_at hl 3 rfl) ?_
      refine t_callV (As := [.int u2]) (rest := []) E hW (c_X1_has l G cI cJ cZ cD cR cT kp L f22 hW.2.2.2 _ a4 u2 r6) r6 (by decide) rfl wk_X1_has tw_683 rfl ⟨Nat.le_of_ble_eq_true rfl, Nat.le_of_ble_eq_true rfl⟩ ⟨rfl, rfl⟩ hl.1 rfl (Nat.le_of_ble_eq_true rfl) dX11_take_41 ⟨Nat.le_of_ble_eq_true rfl, Nat.le_of_ble_eq_true rfl⟩ (fun v35 f36 H locs q37 hW => ?_)
      obtain ⟨⟨x39, rfl, p40⟩, g38⟩ := q37
      have hF := FM.tr hF g38 rfl
      refine q_if_ne (tgt := 54) hx hb dX11_take_44 (by decide) rfl (fun c41 => ?_) (fun c41 => ?_)
      · have q42 : 0 ≤ u2.toInt ∧ u2.toInt ≤ 39 := by omega
        clear p40
        refine lv_iload_n hx hb dX11_take_54 rfl (lv_at hl 4 rfl) ?_
        have J45 : ∀ (y43 : Int32) (b44 : (0 : Int) ≤ y43.toInt ∧ y43.toInt ≤ 1) (H : Heap) (locs : List Loc) (ls : Array Slot), WS G cI cJ cZ cD cR cT A kp L f36 s H locs → FM kp L ms_X11_take f0 f36 → lv_has ls 7 [(4, .ref a4), (0, .ref h0), (1, .int u1), (2, .int u2), (3, .int u3)] → W p l e ({ frames := 5, cells := 0, slots := 0, locals := 143 }) s m ([.ref h0, .int u1, .int u2, .int u3] : List Value).toArray below meth c H locs 0 0 (MQ below (QT (po_X11_take kp L f0 h0 u1 u2 u3) G cI cJ cZ cD cR cT A kp L) ([.ref h0, .int u1, .int u2, .int u3] : List Value).toArray s 0 0 A) (F0 m 63 ls [.int y43]) := by
          intro y43 b44 H locs ls hW hF hl
          clear c13 c27 c41
          refine lv_istore (lv' := [(5, .int y43), (4, .ref a4), (0, .ref h0), (1, .int u1), (2, .int u2), (3, .int u3)]) hx hb dX11_take_63 hl (by decide) rfl (fun ls hl => ?_)
          refine lv_aload hx hb dX11_take_65 (lv_at hl 1 rfl) ?_
          refine fg_RX11_182 E hW r6 dX11_take_67 (fun a46 m47 r48 => ?_)
          refine lv_iload_n hx hb dX11_take_70 rfl (lv_at hl 4 rfl) ?_
          refine gl_167 E hW r48 ⟨by omega, by omega⟩ dX11_take_71 (fun y49 m50 => ?_)
          refine lv_iconst (v := 1) hx hb dX11_take_72 (by decide) ?_
          have J54 : ∀ (y52 : Int32) (b53 : (0 : Int) ≤ y52.toInt ∧ y52.toInt ≤ 1) (H : Heap) (locs : List Loc) (ls : Array Slot), WS G cI cJ cZ cD cR cT A kp L f36 s H locs → FM kp L ms_X11_take f0 f36 → lv_has ls 7 [(5, .int y43), (4, .ref a4), (0, .ref h0), (1, .int u1), (2, .int u2), (3, .int u3)] → W p l e ({ frames := 5, cells := 0, slots := 0, locals := 143 }) s m ([.ref h0, .int u1, .int u2, .int u3] : List Value).toArray below meth c H locs 0 0 (MQ below (QT (po_X11_take kp L f0 h0 u1 u2 u3) G cI cJ cZ cD cR cT A kp L) ([.ref h0, .int u1, .int u2, .int u3] : List Value).toArray s 0 0 A) (F0 m 81 ls [.int y52]) := by
            intro y52 b53 H locs ls hW hF hl
            refine lv_istore (lv' := [(6, .int y52), (5, .int y43), (4, .ref a4), (0, .ref h0), (1, .int u1), (2, .int u2), (3, .int u3)]) hx hb dX11_take_81 hl (by decide) rfl (fun ls hl => ?_)
            refine lv_aload_n hx hb dX11_take_83 rfl (lv_at hl 3 rfl) ?_
            refine fg_RX11_12 E hW rh0 dX11_take_84 (fun a55 m56 r57 => ?_)
            obtain rfl : a1 = a55 := (((fm_R g38 rh0 rfl).trans ((fm_R g24 rh0 rfl).trans m16))).symm.trans m56
            refine fg_RX11_63 E hW r3 dX11_take_87 (fun a58 m59 r60 => ?_)
            obtain rfl : a18 = a58 := (((fm_R g38 r3 rfl).trans ((fm_R g24 r3 rfl).trans m19))).symm.trans m59
            refine fg_RX11_87 E hW r20 dX11_take_90 (fun a61 m62 r63 => ?_)
            refine lv_iload_n hx hb dX11_take_93 rfl (lv_at hl 4 rfl) ?_
            refine gl_346 E hW r63 ⟨by omega, by omega⟩ dX11_take_94 (fun y64 m65 => ?_)
            refine q_if_ne (tgt := 116) hx hb dX11_take_95 (by decide) rfl (fun c67 => ?_) (fun c67 => ?_)
            · refine lv_aload_n hx hb dX11_take_116 rfl (lv_at hl 3 rfl) ?_
              refine lv_bipush (v := (-3)) hx hb dX11_take_117 (by decide) ?_
              refine t_callV (As := [.int (-3)]) (rest := []) E hW (c_X11_refuse l G cI cJ cZ cD cR cT kp L f36 hW.2.2.2 _ h0 (-3) rh0 (by decide)) rh0 (by decide) rfl wk_X11_refuse tw_603 rfl ⟨Nat.le_of_ble_eq_true rfl, Nat.le_of_ble_eq_true rfl⟩ ⟨rfl, rfl⟩ hl.1 rfl (Nat.le_of_ble_eq_true rfl) dX11_take_119 ⟨Nat.le_of_ble_eq_true rfl, Nat.le_of_ble_eq_true rfl⟩ (fun v68 f69 H locs q70 hW => ?_)
              obtain ⟨⟨x72, rfl, p73⟩, g71⟩ := q70
              have p73 : (-6 : Int) ≤ x72.toInt ∧ x72.toInt ≤ -1 := p73
              have hF := FM.tr hF g71 rfl
              exact e_I E hW rfl ⟨⟨_, rfl, trivial⟩, hF⟩ dX11_take_122
            · refine lv_aload hx hb dX11_take_98 (lv_at hl 2 rfl) ?_
              refine fg_RX11_154 E hW r6 dX11_take_100 (fun a74 m75 r76 => ?_)
              refine lv_iload_n hx hb dX11_take_103 rfl (lv_at hl 5 rfl) ?_
              refine gl_164 E hW r76 ⟨by omega, by omega⟩ dX11_take_104 (fun y77 m78 b79 => ?_)
              refine lv_iconst (v := (-1)) hx hb dX11_take_105 (by decide) ?_
              refine q_icmp_ne (Y := -1) (tgt := 116) hx hb dX11_take_106 (by decide) rfl rfl (fun c80 => ?_) (fun c80 => ?_)
              · refine lv_aload_n hx hb dX11_take_116 rfl (lv_at hl 3 rfl) ?_
                refine lv_bipush (v := (-3)) hx hb dX11_take_117 (by decide) ?_
                refine t_callV (As := [.int (-3)]) (rest := []) E hW (c_X11_refuse l G cI cJ cZ cD cR cT kp L f36 hW.2.2.2 _ h0 (-3) rh0 (by decide)) rh0 (by decide) rfl wk_X11_refuse tw_603 rfl ⟨Nat.le_of_ble_eq_true rfl, Nat.le_of_ble_eq_true rfl⟩ ⟨rfl, rfl⟩ hl.1 rfl (Nat.le_of_ble_eq_true rfl) dX11_take_119 ⟨Nat.le_of_ble_eq_true rfl, Nat.le_of_ble_eq_true rfl⟩ (fun v81 f82 H locs q83 hW => ?_)
                obtain ⟨⟨x85, rfl, p86⟩, g84⟩ := q83
                have p86 : (-6 : Int) ≤ x85.toInt ∧ x85.toInt ≤ -1 := p86
                have hF := FM.tr hF g84 rfl
                exact e_I E hW rfl ⟨⟨_, rfl, trivial⟩, hF⟩ dX11_take_122
              · refine lv_iload hx hb dX11_take_109 (lv_at hl 1 rfl) ?_
                refine lv_iload hx hb dX11_take_111 (lv_at hl 0 rfl) ?_
                refine q_icmp_eq (tgt := 123) hx hb dX11_take_113 (by decide) rfl rfl (fun c87 => ?_) (fun c87 => ?_)
                · refine lv_aload_n hx hb dX11_take_123 rfl (lv_at hl 3 rfl) ?_
                  refine fg_RX11_12 E hW rh0 dX11_take_124 (fun a88 m89 r90 => ?_)
                  obtain rfl : a1 = a88 := (m56).symm.trans m89
                  refine t_callV (As := []) (rest := []) E hW (c_X0_lookAtNow l G cI cJ cZ cD cR cT kp L f36 hW.2.2.2 _ a1 r3) r3 (by decide) rfl wk_X0_lookAtNow tw_687 rfl ⟨Nat.le_of_ble_eq_true rfl, Nat.le_of_ble_eq_true rfl⟩ ⟨rfl, rfl⟩ hl.1 rfl (Nat.le_of_ble_eq_true rfl) dX11_take_127 ⟨Nat.le_of_ble_eq_true rfl, Nat.le_of_ble_eq_true rfl⟩ (fun v91 f92 H locs q93 hW => ?_)
                  obtain ⟨rfl, g94⟩ := q93
                  have hF := FM.tr hF g94 rfl
                  refine lv_iload hx hb dX11_take_130 (lv_at hl 1 rfl) ?_
                  refine q_if_eq (tgt := 157) hx hb dX11_take_132 (by decide) rfl (fun c95 => ?_) (fun c95 => ?_)
                  · refine lv_aload_n hx hb dX11_take_157 rfl (lv_at hl 3 rfl) ?_
                    refine fg_RX11_12 E hW rh0 dX11_take_158 (fun a96 m97 r98 => ?_)
                    obtain rfl : a1 = a96 := (((fm_R g94 rh0 rfl).trans m89)).symm.trans m97
                    refine lv_iload_n hx hb dX11_take_161 rfl (lv_at hl 4 rfl) ?_
                    refine lv_iload_n hx hb dX11_take_162 rfl (lv_at hl 5 rfl) ?_
                    refine lv_iload hx hb dX11_take_163 (lv_at hl 1 rfl) ?_
                    refine q_if_eq (tgt := 172) hx hb dX11_take_165 (by decide) rfl (fun c99 => ?_) (fun c99 => ?_)
                    · refine lv_iconst (v := 0) hx hb dX11_take_172 (by decide) ?_
                      refine t_callV (As := [.int u1, .int u2, .int 0]) (rest := []) E hW (c_X0_settle l G cI cJ cZ cD cR cT kp L f92 hW.2.2.2 _ a1 u1 u2 0 r3 (by omega) (by omega) (by decide)) r3 (by decide) rfl wk_X0_settle tw_667 rfl ⟨Nat.le_of_ble_eq_true rfl, Nat.le_of_ble_eq_true rfl⟩ ⟨rfl, rfl⟩ hl.1 rfl (Nat.le_of_ble_eq_true rfl) dX11_take_173 ⟨Nat.le_of_ble_eq_true rfl, Nat.le_of_ble_eq_true rfl⟩ (fun v100 f101 H locs q102 hW => ?_)
                      obtain ⟨rfl, g103⟩ := q102
                      have hF := FM.tr hF g103 rfl
                      refine lv_aload_n hx hb dX11_take_176 rfl (lv_at hl 3 rfl) ?_
                      refine lv_iconst (v := 0) hx hb dX11_take_177 (by decide) ?_
                      refine t_callV (As := [.int 0]) (rest := []) E hW (c_X11_accept l G cI cJ cZ cD cR cT kp L f101 hW.2.2.2 _ h0 0 rh0) rh0 (by decide) rfl wk_X11_accept tw_611 rfl ⟨Nat.le_of_ble_eq_true rfl, Nat.le_of_ble_eq_true rfl⟩ ⟨rfl, rfl⟩ hl.1 rfl (Nat.le_of_ble_eq_true rfl) dX11_take_178 ⟨Nat.le_of_ble_eq_true rfl, Nat.le_of_ble_eq_true rfl⟩ (fun v104 f105 H locs q106 hW => ?_)
                      obtain ⟨⟨x108, rfl, p109⟩, g107⟩ := q106
                      clear p109
                      have hF := FM.tr hF g107 rfl
                      exact e_I E hW rfl ⟨⟨_, rfl, trivial⟩, hF⟩ dX11_take_181
                    · exfalso; omega
                  · refine lv_aload_n hx hb dX11_take_135 rfl (lv_at hl 3 rfl) ?_
                    refine fg_RX11_12 E hW rh0 dX11_take_136 (fun a110 m111 r112 => ?_)
                    obtain rfl : a1 = a110 := (((fm_R g94 rh0 rfl).trans m89)).symm.trans m111
                    refine lv_sipush (v := 264) hx hb dX11_take_139 (by decide) ?_
                    refine lv_iload_n hx hb dX11_take_142 rfl (lv_at hl 4 rfl) ?_
                    refine lv_iload_n hx hb dX11_take_143 rfl (lv_at hl 5 rfl) ?_
                    refine t_callV (As := [.int 264, .int u1, .int u2]) (rest := []) E hW (c_X0_anyHolds l G cI cJ cZ cD cR cT kp L f92 hW.2.2.2 _ a1 264 u1 u2 r3 (by decide) (by omega) (by omega)) r3 (by decide) rfl wk_X0_anyHolds tw_1105 rfl ⟨Nat.le_of_ble_eq_true rfl, Nat.le_of_ble_eq_true rfl⟩ ⟨rfl, rfl⟩ hl.1 rfl (Nat.le_of_ble_eq_true rfl) dX11_take_144 ⟨Nat.le_of_ble_eq_true rfl, Nat.le_of_ble_eq_true rfl⟩ (fun v113 f114 H locs q115 hW => ?_)
                    obtain ⟨⟨x117, rfl, p118⟩, g116⟩ := q115
                    have p118 : (0 : Int) ≤ x117.toInt ∧ x117.toInt ≤ 1 := p118
                    have hF := FM.tr hF g116 rfl
                    refine q_if_ne (tgt := 157) hx hb dX11_take_147 (by decide) rfl (fun c119 => ?_) (fun c119 => ?_)
                    · refine lv_aload_n hx hb dX11_take_157 rfl (lv_at hl 3 rfl) ?_
                      refine fg_RX11_12 E hW rh0 dX11_take_158 (fun a120 m121 r122 => ?_)
                      obtain rfl : a1 = a120 := (((fm_R g116 rh0 rfl).trans m111)).symm.trans m121
                      refine lv_iload_n hx hb dX11_take_161 rfl (lv_at hl 4 rfl) ?_
                      refine lv_iload_n hx hb dX11_take_162 rfl (lv_at hl 5 rfl) ?_
                      refine lv_iload hx hb dX11_take_163 (lv_at hl 1 rfl) ?_
                      refine q_if_eq (tgt := 172) hx hb dX11_take_165 (by decide) rfl (fun c123 => ?_) (fun c123 => ?_)
                      · exfalso; omega
                      · refine lv_iconst (v := 1) hx hb dX11_take_168 (by decide) ?_
                        refine lv_goto (tgt := 173) hx hb dX11_take_169 (by decide) ?_
                        refine t_callV (As := [.int u1, .int u2, .int 1]) (rest := []) E hW (c_X0_settle l G cI cJ cZ cD cR cT kp L f114 hW.2.2.2 _ a1 u1 u2 1 r3 (by omega) (by omega) (by decide)) r3 (by decide) rfl wk_X0_settle tw_667 rfl ⟨Nat.le_of_ble_eq_true rfl, Nat.le_of_ble_eq_true rfl⟩ ⟨rfl, rfl⟩ hl.1 rfl (Nat.le_of_ble_eq_true rfl) dX11_take_173 ⟨Nat.le_of_ble_eq_true rfl, Nat.le_of_ble_eq_true rfl⟩ (fun v124 f125 H locs q126 hW => ?_)
                        obtain ⟨rfl, g127⟩ := q126
                        have hF := FM.tr hF g127 rfl
                        refine lv_aload_n hx hb dX11_take_176 rfl (lv_at hl 3 rfl) ?_
                        refine lv_iconst (v := 0) hx hb dX11_take_177 (by decide) ?_
                        refine t_callV (As := [.int 0]) (rest := []) E hW (c_X11_accept l G cI cJ cZ cD cR cT kp L f125 hW.2.2.2 _ h0 0 rh0) rh0 (by decide) rfl wk_X11_accept tw_611 rfl ⟨Nat.le_of_ble_eq_true rfl, Nat.le_of_ble_eq_true rfl⟩ ⟨rfl, rfl⟩ hl.1 rfl (Nat.le_of_ble_eq_true rfl) dX11_take_178 ⟨Nat.le_of_ble_eq_true rfl, Nat.le_of_ble_eq_true rfl⟩ (fun v128 f129 H locs q130 hW => ?_)
                        obtain ⟨⟨x132, rfl, p133⟩, g131⟩ := q130
                        clear p133
                        have hF := FM.tr hF g131 rfl
                        exact e_I E hW rfl ⟨⟨_, rfl, trivial⟩, hF⟩ dX11_take_181
                    · refine lv_aload_n hx hb dX11_take_150 rfl (lv_at hl 3 rfl) ?_
                      refine lv_bipush (v := (-3)) hx hb dX11_take_151 (by decide) ?_
                      refine t_callV (As := [.int (-3)]) (rest := []) E hW (c_X11_refuse l G cI cJ cZ cD cR cT kp L f114 hW.2.2.2 _ h0 (-3) rh0 (by decide)) rh0 (by decide) rfl wk_X11_refuse tw_603 rfl ⟨Nat.le_of_ble_eq_true rfl, Nat.le_of_ble_eq_true rfl⟩ ⟨rfl, rfl⟩ hl.1 rfl (Nat.le_of_ble_eq_true rfl) dX11_take_153 ⟨Nat.le_of_ble_eq_true rfl, Nat.le_of_ble_eq_true rfl⟩ (fun v134 f135 H locs q136 hW => ?_)
                      obtain ⟨⟨x138, rfl, p139⟩, g137⟩ := q136
                      have p139 : (-6 : Int) ≤ x138.toInt ∧ x138.toInt ≤ -1 := p139
                      have hF := FM.tr hF g137 rfl
                      exact e_I E hW rfl ⟨⟨_, rfl, trivial⟩, hF⟩ dX11_take_156
                · refine lv_aload_n hx hb dX11_take_116 rfl (lv_at hl 3 rfl) ?_
                  refine lv_bipush (v := (-3)) hx hb dX11_take_117 (by decide) ?_
                  refine t_callV (As := [.int (-3)]) (rest := []) E hW (c_X11_refuse l G cI cJ cZ cD cR cT kp L f36 hW.2.2.2 _ h0 (-3) rh0 (by decide)) rh0 (by decide) rfl wk_X11_refuse tw_603 rfl ⟨Nat.le_of_ble_eq_true rfl, Nat.le_of_ble_eq_true rfl⟩ ⟨rfl, rfl⟩ hl.1 rfl (Nat.le_of_ble_eq_true rfl) dX11_take_119 ⟨Nat.le_of_ble_eq_true rfl, Nat.le_of_ble_eq_true rfl⟩ (fun v140 f141 H locs q142 hW => ?_)
                  obtain ⟨⟨x144, rfl, p145⟩, g143⟩ := q142
                  have p145 : (-6 : Int) ≤ x144.toInt ∧ x144.toInt ≤ -1 := p145
                  have hF := FM.tr hF g143 rfl
                  exact e_I E hW rfl ⟨⟨_, rfl, trivial⟩, hF⟩ dX11_take_122
          refine q_icmp_ne (Y := 1) (tgt := 80) hx hb dX11_take_73 (by decide) rfl rfl (fun c146 => ?_) (fun c146 => ?_)
          · refine lv_iconst (v := 0) hx hb dX11_take_80 (by decide) ?_
            exact J54 0 (by decide) _ _ _ hW hF (lv_sub hl [0, 1, 2, 3, 4, 5] rfl)
          · refine lv_iconst (v := 1) hx hb dX11_take_76 (by decide) ?_
            refine lv_goto (tgt := 81) hx hb dX11_take_77 (by decide) ?_
            exact J54 1 (by decide) _ _ _ hW hF (lv_sub hl [0, 1, 2, 3, 4, 5] rfl)
        refine q_if_ne (tgt := 62) hx hb dX11_take_55 (by decide) rfl (fun c147 => ?_) (fun c147 => ?_)
        · refine lv_iconst (v := 0) hx hb dX11_take_62 (by decide) ?_
          exact J45 0 (by decide) _ _ _ hW hF (lv_sub hl [0, 1, 2, 3, 4] rfl)
        · refine lv_iconst (v := 1) hx hb dX11_take_58 (by decide) ?_
          refine lv_goto (tgt := 63) hx hb dX11_take_59 (by decide) ?_
          exact J45 1 (by decide) _ _ _ hW hF (lv_sub hl [0, 1, 2, 3, 4] rfl)
      · clear p40
        refine lv_aload_n hx hb dX11_take_47 rfl (lv_at hl 1 rfl) ?_
        refine lv_bipush (v := (-2)) hx hb dX11_take_48 (by decide) ?_
        refine t_callV (As := [.int (-2)]) (rest := []) E hW (c_X11_refuse l G cI cJ cZ cD cR cT kp L f36 hW.2.2.2 _ h0 (-2) rh0 (by decide)) rh0 (by decide) rfl wk_X11_refuse tw_603 rfl ⟨Nat.le_of_ble_eq_true rfl, Nat.le_of_ble_eq_true rfl⟩ ⟨rfl, rfl⟩ hl.1 rfl (Nat.le_of_ble_eq_true rfl) dX11_take_50 ⟨Nat.le_of_ble_eq_true rfl, Nat.le_of_ble_eq_true rfl⟩ (fun v148 f149 H locs q150 hW => ?_)
        obtain ⟨⟨x152, rfl, p153⟩, g151⟩ := q150
        have p153 : (-6 : Int) ≤ x152.toInt ∧ x152.toInt ≤ -1 := p153
        have hF := FM.tr hF g151 rfl
        exact e_I E hW rfl ⟨⟨_, rfl, trivial⟩, hF⟩ dX11_take_53
  · have q154 : (u3.toInt < 0 ∨ 1 < u3.toInt) := by omega
    clear p12
    refine lv_aload_n hx hb dX11_take_18 rfl (lv_at hl 1 rfl) ?_
    refine lv_iconst (v := (-1)) hx hb dX11_take_19 (by decide) ?_
    refine t_callV (As := [.int (-1)]) (rest := []) E hW (c_X11_refuse l G cI cJ cZ cD cR cT kp L f8 hW.2.2.2 _ h0 (-1) rh0 (by decide)) rh0 (by decide) rfl wk_X11_refuse tw_603 rfl ⟨Nat.le_of_ble_eq_true rfl, Nat.le_of_ble_eq_true rfl⟩ ⟨rfl, rfl⟩ hl.1 rfl (Nat.le_of_ble_eq_true rfl) dX11_take_20 ⟨Nat.le_of_ble_eq_true rfl, Nat.le_of_ble_eq_true rfl⟩ (fun v155 f156 H locs q157 hW => ?_)
    obtain ⟨⟨x159, rfl, p160⟩, g158⟩ := q157
    have p160 : (-6 : Int) ≤ x159.toInt ∧ x159.toInt ≤ -1 := p160
    have hF := FM.tr hF g158 rfl
    exact e_I E hW rfl ⟨⟨_, rfl, trivial⟩, hF⟩ dX11_take_23
def ms_X11_tells : List (Nat × Nat) := [(0, 14), (115, 0), (222, 0), (223, 0)]
def po_X11_tells (kp : Nat → Nat) (L : List Nat) (f0 : Nat → va_E) (h0 : Nat) (u1 : Int32) (u2 : Int32) : Option Value → (Nat → va_E) → Prop := fun v f => (∃ r : Int32, v = some (.int r) ∧ (True)) ∧ FM kp L ms_X11_tells f0 f
set_option maxHeartbeats 4000000 in
set_option maxRecDepth 100000 in
theorem c_X11_tells (l : Launch) (G : va_G) (cI cJ cZ cD cR cT : ClassId) (kp : Nat → Nat) (L : List Nat) (f0 : Nat → va_E) (hTH : TH cI cJ cZ cD cR cT kp L f0) (sz : Nat) (h0 : Nat) (u1 : Int32) (u2 : Int32) (rh0 : RK kp L h0 11) : Met l yX11_tells (Cond.code yX11_tells cX11_tells 4 (some .int) :: wTab) ({ frames := 6, cells := 0, slots := 0, locals := 165 }) (va_Pc [.ref h0, .int u1, .int u2] (PreW G (tys6 cI cJ cZ cD cR cT) (va_pl L f0) sz)) (QT (po_X11_tells kp L f0 h0 u1 u2) G cI cJ cZ cD cR cT (va_A (va_pl L f0) sz) kp L) 0 0 (va_A (va_pl L f0) sz) := by
  refine metT (by decide) (Nat.le_of_ble_eq_true rfl) hTH ?_
  intro p e s m below meth c A ls E hW hl
  obtain ⟨hx, hb, -, hml, hown, hts, -, -, -⟩ := id E
  have hF : FM kp L ms_X11_tells f0 f0 := FM.rf
  have hl : lv_has ls 4 [(0, .ref h0), (1, .int u1), (2, .int u2)] := hl
  refine lv_aload_n hx hb dX11_tells_0 rfl (lv_at hl 0 rfl) ?_
  refine fg_RX11_12 E hW rh0 dX11_tells_1 (fun a1 m2 r3 => ?_)
  refine fg_RX11_114 E hW r3 dX11_tells_4 (fun a4 m5 r6 => ?_)
  refine lv_astore_n (lv' := [(3, .ref a4), (0, .ref h0), (1, .int u1), (2, .int u2)]) hx hb dX11_tells_7 rfl hl (by decide) rfl (fun ls hl => ?_)
  refine lv_aload_n hx hb dX11_tells_8 rfl (lv_at hl 0 rfl) ?_
  refine lv_iload_n hx hb dX11_tells_9 rfl (lv_at hl 2 rfl) ?_
  refine t_callV (As := [.int u1]) (rest := []) E hW (c_X1_has l G cI cJ cZ cD cR cT kp L f0 hW.2.2.2 _ a4 u1 r6) r6 (by decide) rfl wk_X1_has tw_683 rfl ⟨Nat.le_of_ble_eq_true rfl, Nat.le_of_ble_eq_true rfl⟩ ⟨rfl, rfl⟩ hl.1 rfl (Nat.le_of_ble_eq_true rfl) dX11_tells_10 ⟨Nat.le_of_ble_eq_true rfl, Nat.le_of_ble_eq_true rfl⟩ (fun v7 f8 H locs q9 hW => ?_)
  obtain ⟨⟨x11, rfl, p12⟩, g10⟩ := q9
  have hF := FM.tr hF g10 rfl
  refine q_if_ne (tgt := 18) hx hb dX11_tells_13 (by decide) rfl (fun c13 => ?_) (fun c13 => ?_)
  · have q14 : 0 ≤ u1.toInt ∧ u1.toInt ≤ 39 := by omega
    clear p12
    refine lv_aload_n hx hb dX11_tells_18 rfl (lv_at hl 1 rfl) ?_
    refine fg_RX11_12 E hW rh0 dX11_tells_19 (fun a15 m16 r17 => ?_)
    obtain rfl : a1 = a15 := (((fm_R g10 rh0 rfl).trans m2)).symm.trans m16
    refine t_callV (As := []) (rest := []) E hW (c_X0_lookAtNow l G cI cJ cZ cD cR cT kp L f8 hW.2.2.2 _ a1 r3) r3 (by decide) rfl wk_X0_lookAtNow tw_687 rfl ⟨Nat.le_of_ble_eq_true rfl, Nat.le_of_ble_eq_true rfl⟩ ⟨rfl, rfl⟩ hl.1 rfl (Nat.le_of_ble_eq_true rfl) dX11_tells_22 ⟨Nat.le_of_ble_eq_true rfl, Nat.le_of_ble_eq_true rfl⟩ (fun v18 f19 H locs q20 hW => ?_)
    obtain ⟨rfl, g21⟩ := q20
    have hF := FM.tr hF g21 rfl
    refine lv_iload_n hx hb dX11_tells_25 rfl (lv_at hl 3 rfl) ?_
    by_cases c22 : u2.toInt = 0
    · refine lv_tableIn (tgt := 72) hx hb dX11_tells_26 (by omega) (by omega) (by rw [c22]; rfl) (by decide) ?_
      refine lv_aload_n hx hb dX11_tells_72 rfl (lv_at hl 0 rfl) ?_
      refine fg_RX11_154 E hW r6 dX11_tells_73 (fun a23 m24 r25 => ?_)
      refine lv_iload_n hx hb dX11_tells_76 rfl (lv_at hl 2 rfl) ?_
      refine gl_164 E hW r25 ⟨by omega, by omega⟩ dX11_tells_77 (fun y26 m27 b28 => ?_)
      exact e_I E hW rfl ⟨⟨_, rfl, trivial⟩, hF⟩ dX11_tells_78
    by_cases c29 : u2.toInt = 1
    · refine lv_tableIn (tgt := 79) hx hb dX11_tells_26 (by omega) (by omega) (by rw [c29]; rfl) (by decide) ?_
      refine lv_aload_n hx hb dX11_tells_79 rfl (lv_at hl 0 rfl) ?_
      refine fg_RX11_157 E hW r6 dX11_tells_80 (fun a30 m31 r32 => ?_)
      refine lv_iload_n hx hb dX11_tells_83 rfl (lv_at hl 2 rfl) ?_
      refine gl_163 E hW r32 ⟨by omega, by omega⟩ dX11_tells_84 (fun y33 m34 => ?_)
      exact e_I E hW rfl ⟨⟨_, rfl, trivial⟩, hF⟩ dX11_tells_85
    by_cases c36 : u2.toInt = 2
    · refine lv_tableIn (tgt := 86) hx hb dX11_tells_26 (by omega) (by omega) (by rw [c36]; rfl) (by decide) ?_
      refine lv_aload_n hx hb dX11_tells_86 rfl (lv_at hl 0 rfl) ?_
      refine fg_RX11_160 E hW r6 dX11_tells_87 (fun a37 m38 r39 => ?_)
      refine lv_iload_n hx hb dX11_tells_90 rfl (lv_at hl 2 rfl) ?_
      refine gl_165 E hW r39 ⟨by omega, by omega⟩ dX11_tells_91 (fun y40 m41 => ?_)
      exact e_I E hW rfl ⟨⟨_, rfl, trivial⟩, hF⟩ dX11_tells_92
    by_cases c43 : u2.toInt = 3
    · refine lv_tableIn (tgt := 93) hx hb dX11_tells_26 (by omega) (by omega) (by rw [c43]; rfl) (by decide) ?_
      refine lv_aload_n hx hb dX11_tells_93 rfl (lv_at hl 0 rfl) ?_
      refine fg_RX11_154 E hW r6 dX11_tells_94 (fun a44 m45 r46 => ?_)
      refine lv_iload_n hx hb dX11_tells_97 rfl (lv_at hl 2 rfl) ?_
      refine gl_164 E hW r46 ⟨by omega, by omega⟩ dX11_tells_98 (fun y47 m48 b49 => ?_)
      refine lv_iconst (v := (-1)) hx hb dX11_tells_99 (by decide) ?_
      have J65 : ∀ (f59 : Nat → va_E) (y63 : Int32) (m60 : oR (f59 a1) 1 = a4) (m61 : oR (f59 a4) 4 = a44) (m62 : oR (f59 h0) 0 = a1) (b64 : (-1 : Int) ≤ y63.toInt) (H : Heap) (locs : List Loc) (ls : Array Slot), WS G cI cJ cZ cD cR cT A kp L f59 s H locs → FM kp L ms_X11_tells f0 f59 → lv_has ls 4 [(3, .ref a4), (0, .ref h0), (1, .int u1), (2, .int u2)] → W p l e ({ frames := 6, cells := 0, slots := 0, locals := 165 }) s m ([.ref h0, .int u1, .int u2] : List Value).toArray below meth c H locs 0 0 (MQ below (QT (po_X11_tells kp L f0 h0 u1 u2) G cI cJ cZ cD cR cT A kp L) ([.ref h0, .int u1, .int u2] : List Value).toArray s 0 0 A) (F0 m 115 ls [.int y63]) := by
        intro f59 y63 m60 m61 m62 b64 H locs ls hW hF hl
        clear c13 b49
        exact e_I E hW rfl ⟨⟨_, rfl, trivial⟩, hF⟩ dX11_tells_115
      refine q_icmp_ne (Y := -1) (tgt := 107) hx hb dX11_tells_100 (by decide) rfl rfl (fun c66 => ?_) (fun c66 => ?_)
      · refine lv_aload_n hx hb dX11_tells_107 rfl (lv_at hl 1 rfl) ?_
        refine fg_RX11_12 E hW rh0 dX11_tells_108 (fun a67 m68 r69 => ?_)
        obtain rfl : a1 = a67 := (((fm_R g21 rh0 rfl).trans m16)).symm.trans m68
        refine lv_iload_n hx hb dX11_tells_111 rfl (lv_at hl 2 rfl) ?_
        refine t_callV (As := [.int u1]) (rest := []) E hW (c_X0_fairOf l G cI cJ cZ cD cR cT kp L f19 hW.2.2.2 _ a1 u1 r3 (by omega)) r3 (by decide) rfl wk_X0_fairOf tw_705 rfl ⟨Nat.le_of_ble_eq_true rfl, Nat.le_of_ble_eq_true rfl⟩ ⟨rfl, rfl⟩ hl.1 rfl (Nat.le_of_ble_eq_true rfl) dX11_tells_112 ⟨Nat.le_of_ble_eq_true rfl, Nat.le_of_ble_eq_true rfl⟩ (fun v70 f71 H locs q72 hW => ?_)
        obtain ⟨⟨x74, rfl, p75⟩, g73⟩ := q72
        have hF := FM.tr hF g73 rfl
        exact J65 f71 x74 ((fm_R g73 r3 rfl).trans ((fm_R g21 r3 rfl).trans ((fm_R g10 r3 rfl).trans m5))) ((fm_R g73 r6 rfl).trans m45) ((fm_R g73 rh0 rfl).trans m68) (by omega) _ _ _ hW hF (lv_sub hl [0, 1, 2, 3] rfl)
      · refine lv_iconst (v := (-1)) hx hb dX11_tells_103 (by decide) ?_
        refine lv_goto (tgt := 115) hx hb dX11_tells_104 (by decide) ?_
        exact J65 f19 (-1) ((fm_R g21 r3 rfl).trans ((fm_R g10 r3 rfl).trans m5)) m45 ((fm_R g21 rh0 rfl).trans m16) (by decide) _ _ _ hW hF (lv_sub hl [0, 1, 2, 3] rfl)
    by_cases c76 : u2.toInt = 4
    · refine lv_tableIn (tgt := 116) hx hb dX11_tells_26 (by omega) (by omega) (by rw [c76]; rfl) (by decide) ?_
      refine lv_aload_n hx hb dX11_tells_116 rfl (lv_at hl 1 rfl) ?_
      refine fg_RX11_12 E hW rh0 dX11_tells_117 (fun a77 m78 r79 => ?_)
      obtain rfl : a1 = a77 := (((fm_R g21 rh0 rfl).trans m16)).symm.trans m78
      refine lv_aload_n hx hb dX11_tells_120 rfl (lv_at hl 0 rfl) ?_
      refine fg_RX11_154 E hW r6 dX11_tells_121 (fun a80 m81 r82 => ?_)
      refine lv_iload_n hx hb dX11_tells_124 rfl (lv_at hl 2 rfl) ?_
      refine gl_164 E hW r82 ⟨by omega, by omega⟩ dX11_tells_125 (fun y83 m84 b85 => ?_)
      refine lv_iload_n hx hb dX11_tells_126 rfl (lv_at hl 2 rfl) ?_
      refine t_callV (As := [.int y83, .int u1]) (rest := []) E hW (c_X0_keepsFor l G cI cJ cZ cD cR cT kp L f19 hW.2.2.2 _ a1 y83 u1 r3 (by omega) (by omega)) r3 (by decide) rfl wk_X0_keepsFor tw_748 rfl ⟨Nat.le_of_ble_eq_true rfl, Nat.le_of_ble_eq_true rfl⟩ ⟨rfl, rfl⟩ hl.1 rfl (Nat.le_of_ble_eq_true rfl) dX11_tells_127 ⟨Nat.le_of_ble_eq_true rfl, Nat.le_of_ble_eq_true rfl⟩ (fun v86 f87 H locs q88 hW => ?_)
      obtain ⟨⟨x90, rfl, p91⟩, g89⟩ := q88
      have hF := FM.tr hF g89 rfl
      have J94 : ∀ (y92 : Int32) (b93 : (0 : Int) ≤ y92.toInt ∧ y92.toInt ≤ 1) (H : Heap) (locs : List Loc) (ls : Array Slot), WS G cI cJ cZ cD cR cT A kp L f87 s H locs → FM kp L ms_X11_tells f0 f87 → lv_has ls 4 [(3, .ref a4), (0, .ref h0), (1, .int u1), (2, .int u2)] → W p l e ({ frames := 6, cells := 0, slots := 0, locals := 165 }) s m ([.ref h0, .int u1, .int u2] : List Value).toArray below meth c H locs 0 0 (MQ below (QT (po_X11_tells kp L f0 h0 u1 u2) G cI cJ cZ cD cR cT A kp L) ([.ref h0, .int u1, .int u2] : List Value).toArray s 0 0 A) (F0 m 138 ls [.int y92]) := by
        intro y92 b93 H locs ls hW hF hl
        clear c13 p91
        exact e_I E hW rfl ⟨⟨_, rfl, trivial⟩, hF⟩ dX11_tells_138
      refine q_if_eq (tgt := 137) hx hb dX11_tells_130 (by decide) rfl (fun c95 => ?_) (fun c95 => ?_)
      · refine lv_iconst (v := 0) hx hb dX11_tells_137 (by decide) ?_
        exact J94 0 (by decide) _ _ _ hW hF (lv_sub hl [0, 1, 2, 3] rfl)
      · refine lv_iconst (v := 1) hx hb dX11_tells_133 (by decide) ?_
        refine lv_goto (tgt := 138) hx hb dX11_tells_134 (by decide) ?_
        exact J94 1 (by decide) _ _ _ hW hF (lv_sub hl [0, 1, 2, 3] rfl)
    by_cases c96 : u2.toInt = 5
    · refine lv_tableIn (tgt := 139) hx hb dX11_tells_26 (by omega) (by omega) (by rw [c96]; rfl) (by decide) ?_
      refine lv_aload_n hx hb dX11_tells_139 rfl (lv_at hl 1 rfl) ?_
      refine fg_RX11_12 E hW rh0 dX11_tells_140 (fun a97 m98 r99 => ?_)
      obtain rfl : a1 = a97 := (((fm_R g21 rh0 rfl).trans m16)).symm.trans m98
      refine fg_RX11_170 E hW r3 dX11_tells_143 (fun a100 m101 r102 => ?_)
      refine lv_iload_n hx hb dX11_tells_146 rfl (lv_at hl 2 rfl) ?_
      refine t_callV (As := [.int u1]) (rest := []) E hW (c_X10_stepOf l G cI cJ cZ cD cR cT kp L f19 hW.2.2.2 _ a100 u1 r102 (by omega)) r102 (by decide) rfl wk_X10_stepOf tw_756 rfl ⟨Nat.le_of_ble_eq_true rfl, Nat.le_of_ble_eq_true rfl⟩ ⟨rfl, rfl⟩ hl.1 rfl (Nat.le_of_ble_eq_true rfl) dX11_tells_147 ⟨Nat.le_of_ble_eq_true rfl, Nat.le_of_ble_eq_true rfl⟩ (fun v103 f104 H locs q105 hW => ?_)
      obtain ⟨⟨x107, rfl, p108⟩, g106⟩ := q105
      clear p108
      have hF := FM.tr hF g106 rfl
      exact e_I E hW rfl ⟨⟨_, rfl, trivial⟩, hF⟩ dX11_tells_150
    by_cases c109 : u2.toInt = 6
    · refine lv_tableIn (tgt := 151) hx hb dX11_tells_26 (by omega) (by omega) (by rw [c109]; rfl) (by decide) ?_
      refine lv_aload_n hx hb dX11_tells_151 rfl (lv_at hl 1 rfl) ?_
      refine fg_RX11_12 E hW rh0 dX11_tells_152 (fun a110 m111 r112 => ?_)
      obtain rfl : a1 = a110 := (((fm_R g21 rh0 rfl).trans m16)).symm.trans m111
      refine fg_RX11_170 E hW r3 dX11_tells_155 (fun a113 m114 r115 => ?_)
      refine lv_iload_n hx hb dX11_tells_158 rfl (lv_at hl 2 rfl) ?_
      refine t_callV (As := [.int u1]) (rest := []) E hW (c_X10_leftOf l G cI cJ cZ cD cR cT kp L f19 hW.2.2.2 _ a113 u1 r115 (by omega)) r115 (by decide) rfl wk_X10_leftOf tw_764 rfl ⟨Nat.le_of_ble_eq_true rfl, Nat.le_of_ble_eq_true rfl⟩ ⟨rfl, rfl⟩ hl.1 rfl (Nat.le_of_ble_eq_true rfl) dX11_tells_159 ⟨Nat.le_of_ble_eq_true rfl, Nat.le_of_ble_eq_true rfl⟩ (fun v116 f117 H locs q118 hW => ?_)
      obtain ⟨⟨x120, rfl, p121⟩, g119⟩ := q118
      clear p121
      have hF := FM.tr hF g119 rfl
      exact e_I E hW rfl ⟨⟨_, rfl, trivial⟩, hF⟩ dX11_tells_162
    by_cases c122 : u2.toInt = 7
    · refine lv_tableIn (tgt := 163) hx hb dX11_tells_26 (by omega) (by omega) (by rw [c122]; rfl) (by decide) ?_
      refine lv_aload_n hx hb dX11_tells_163 rfl (lv_at hl 0 rfl) ?_
      refine fg_RX11_182 E hW r6 dX11_tells_164 (fun a123 m124 r125 => ?_)
      refine lv_iload_n hx hb dX11_tells_167 rfl (lv_at hl 2 rfl) ?_
      refine gl_167 E hW r125 ⟨by omega, by omega⟩ dX11_tells_168 (fun y126 m127 => ?_)
      exact e_I E hW rfl ⟨⟨_, rfl, trivial⟩, hF⟩ dX11_tells_169
    refine lv_tableOut (tgt := 170) hx hb dX11_tells_26 (by omega) (by decide) ?_
    refine lv_iconst (v := (-1)) hx hb dX11_tells_170 (by decide) ?_
    exact e_I E hW rfl ⟨⟨_, rfl, trivial⟩, hF⟩ dX11_tells_171
  · clear p12
    refine lv_iconst (v := (-1)) hx hb dX11_tells_16 (by decide) ?_
    exact e_I E hW rfl ⟨⟨_, rfl, trivial⟩, hF⟩ dX11_tells_17
def ms_X11_wish : List (Nat × Nat) := [(11, 9), (11, 15), (768, 0)]
def po_X11_wish (kp : Nat → Nat) (L : List Nat) (f0 : Nat → va_E) (h0 : Nat) (u1 : Int32) : Option Value → (Nat → va_E) → Prop := fun v f => (∃ r : Int32, v = some (.int r) ∧ (True)) ∧ FM kp L ms_X11_wish f0 f
set_option maxHeartbeats 4000000 in
set_option maxRecDepth 100000 in
theorem c_X11_wish (l : Launch) (G : va_G) (cI cJ cZ cD cR cT : ClassId) (kp : Nat → Nat) (L : List Nat) (f0 : Nat → va_E) (hTH : TH cI cJ cZ cD cR cT kp L f0) (sz : Nat) (h0 : Nat) (u1 : Int32) (rh0 : RK kp L h0 11) : Met l yX11_wish (Cond.code yX11_wish cX11_wish 2 (some .int) :: wTab) ({ frames := 2, cells := 0, slots := 0, locals := 62 }) (va_Pc [.ref h0, .int u1] (PreW G (tys6 cI cJ cZ cD cR cT) (va_pl L f0) sz)) (QT (po_X11_wish kp L f0 h0 u1) G cI cJ cZ cD cR cT (va_A (va_pl L f0) sz) kp L) 0 0 (va_A (va_pl L f0) sz) := by
  refine metT (by decide) (Nat.le_of_ble_eq_true rfl) hTH ?_
  intro p e s m below meth c A ls E hW hl
  obtain ⟨hx, hb, -, hml, hown, hts, -, -, -⟩ := id E
  have hF : FM kp L ms_X11_wish f0 f0 := FM.rf
  have hl : lv_has ls 2 [(0, .ref h0), (1, .int u1)] := hl
  refine lv_aload_n hx hb dX11_wish_0 rfl (lv_at hl 0 rfl) ?_
  refine fg_RX11_12 E hW rh0 dX11_wish_1 (fun a1 m2 r3 => ?_)
  refine fg_RX11_114 E hW r3 dX11_wish_4 (fun a4 m5 r6 => ?_)
  refine lv_iload_n hx hb dX11_wish_7 rfl (lv_at hl 1 rfl) ?_
  refine t_callV (As := [.int u1]) (rest := []) E hW (c_X1_has l G cI cJ cZ cD cR cT kp L f0 hW.2.2.2 _ a4 u1 r6) r6 (by decide) rfl wk_X1_has tw_683 rfl ⟨Nat.le_of_ble_eq_true rfl, Nat.le_of_ble_eq_true rfl⟩ ⟨rfl, rfl⟩ hl.1 rfl (Nat.le_of_ble_eq_true rfl) dX11_wish_8 ⟨Nat.le_of_ble_eq_true rfl, Nat.le_of_ble_eq_true rfl⟩ (fun v7 f8 H locs q9 hW => ?_)
  obtain ⟨⟨x11, rfl, p12⟩, g10⟩ := q9
  have hF := FM.tr hF g10 rfl
  refine q_if_ne (tgt := 21) hx hb dX11_wish_11 (by decide) rfl (fun c13 => ?_) (fun c13 => ?_)
  · have q14 : 0 ≤ u1.toInt ∧ u1.toInt ≤ 39 := by omega
    clear p12
    refine lv_aload_n hx hb dX11_wish_21 rfl (lv_at hl 0 rfl) ?_
    refine fg_RX11_12 E hW rh0 dX11_wish_22 (fun a15 m16 r17 => ?_)
    obtain rfl : a1 = a15 := (((fm_R g10 rh0 rfl).trans m2)).symm.trans m16
    refine fg_RX11_114 E hW r3 dX11_wish_25 (fun a18 m19 r20 => ?_)
    obtain rfl : a4 = a18 := (((fm_R g10 r3 rfl).trans m5)).symm.trans m19
    refine fg_RX11_154 E hW r6 dX11_wish_28 (fun a21 m22 r23 => ?_)
    refine lv_iload_n hx hb dX11_wish_31 rfl (lv_at hl 1 rfl) ?_
    refine gl_164 E hW r23 ⟨by omega, by omega⟩ dX11_wish_32 (fun y24 m25 b26 => ?_)
    refine lv_iconst (v := (-1)) hx hb dX11_wish_33 (by decide) ?_
    refine q_icmp_ne (Y := -1) (tgt := 44) hx hb dX11_wish_34 (by decide) rfl rfl (fun c27 => ?_) (fun c27 => ?_)
    · refine lv_aload_n hx hb dX11_wish_44 rfl (lv_at hl 0 rfl) ?_
      refine lv_iload_n hx hb dX11_wish_45 rfl (lv_at hl 1 rfl) ?_
      refine t_callV (As := [.int u1]) (rest := []) E hW (c_X11_isWished l G cI cJ cZ cD cR cT kp L f8 hW.2.2.2 _ h0 u1 rh0 (by omega)) rh0 (by decide) rfl wk_X11_isWished tw_1256 rfl ⟨Nat.le_of_ble_eq_true rfl, Nat.le_of_ble_eq_true rfl⟩ ⟨rfl, rfl⟩ hl.1 rfl (Nat.le_of_ble_eq_true rfl) dX11_wish_46 ⟨Nat.le_of_ble_eq_true rfl, Nat.le_of_ble_eq_true rfl⟩ (fun v28 f29 H locs q30 hW => ?_)
      obtain ⟨⟨x32, rfl, p33⟩, g31⟩ := q30
      have hF := FM.tr hF g31 rfl
      refine q_if_eq (tgt := 59) hx hb dX11_wish_49 (by decide) rfl (fun c34 => ?_) (fun c34 => ?_)
      · refine lv_aload_n hx hb dX11_wish_59 rfl (lv_at hl 0 rfl) ?_
        refine fg_RX11_309 E hW rh0 dX11_wish_60 (fun y35 m36 b37 => ?_)
        refine lv_bipush (v := 6) hx hb dX11_wish_63 (by decide) ?_
        refine q_icmp_lt (Y := 6) (tgt := 75) hx hb dX11_wish_65 (by decide) rfl rfl (fun c38 => ?_) (fun c38 => ?_)
        · refine lv_aload_n hx hb dX11_wish_75 rfl (lv_at hl 0 rfl) ?_
          refine fg_RX11_41 E hW rh0 dX11_wish_76 (fun a39 m40 r41 => ?_)
          refine lv_aload_n hx hb dX11_wish_79 rfl (lv_at hl 0 rfl) ?_
          refine fg_RX11_309 E hW rh0 dX11_wish_80 (fun y42 m43 b44 => ?_)
          obtain rfl : y35 = y42 := (m36).symm.trans m43
          refine lv_iload_n hx hb dX11_wish_83 rfl (lv_at hl 1 rfl) ?_
          refine gs_768 E hW r41 ⟨by omega, by omega⟩ (by omega) dX11_wish_84 (fun f45 H locs e46 n47 g48 hW => ?_)
          have hF := FM.tr hF g48 rfl
          refine lv_aload_n hx hb dX11_wish_85 rfl (lv_at hl 0 rfl) ?_
          refine lv_dup hx hb dX11_wish_86 rfl ?_
          refine fg_RX11_309 E hW rh0 dX11_wish_87 (fun y49 m50 b51 => ?_)
          obtain rfl : y35 = y49 := (((fm_I g48 rh0 rfl).trans m43)).symm.trans m50
          refine lv_iconst (v := 1) hx hb dX11_wish_90 (by decide) ?_
          refine q_iadd (Y := 1) hx hb dX11_wish_91 rfl rfl (by omega) (fun x52 h53 => ?_)
          refine fp_RX11_309 E hW rh0 (by omega) dX11_wish_92 (fun f54 H locs e55 n56 g57 hW => ?_)
          have hF := FM.tr hF g57 rfl
          refine lv_aload_n hx hb dX11_wish_95 rfl (lv_at hl 0 rfl) ?_
          refine lv_aload_n hx hb dX11_wish_96 rfl (lv_at hl 0 rfl) ?_
          refine fg_RX11_309 E hW rh0 dX11_wish_97 (fun y58 m59 b60 => ?_)
          obtain rfl : x52 = y58 := (e55).symm.trans m59
          refine t_callV (As := [.int x52]) (rest := []) E hW (c_X11_accept l G cI cJ cZ cD cR cT kp L f54 hW.2.2.2 _ h0 x52 rh0) rh0 (by decide) rfl wk_X11_accept tw_611 rfl ⟨Nat.le_of_ble_eq_true rfl, Nat.le_of_ble_eq_true rfl⟩ ⟨rfl, rfl⟩ hl.1 rfl (Nat.le_of_ble_eq_true rfl) dX11_wish_100 ⟨Nat.le_of_ble_eq_true rfl, Nat.le_of_ble_eq_true rfl⟩ (fun v61 f62 H locs q63 hW => ?_)
          obtain ⟨⟨x65, rfl, p66⟩, g64⟩ := q63
          clear p66
          have hF := FM.tr hF g64 rfl
          exact e_I E hW rfl ⟨⟨_, rfl, trivial⟩, hF⟩ dX11_wish_103
        · refine lv_aload_n hx hb dX11_wish_68 rfl (lv_at hl 0 rfl) ?_
          refine lv_bipush (v := (-5)) hx hb dX11_wish_69 (by decide) ?_
          refine t_callV (As := [.int (-5)]) (rest := []) E hW (c_X11_refuse l G cI cJ cZ cD cR cT kp L f29 hW.2.2.2 _ h0 (-5) rh0 (by decide)) rh0 (by decide) rfl wk_X11_refuse tw_603 rfl ⟨Nat.le_of_ble_eq_true rfl, Nat.le_of_ble_eq_true rfl⟩ ⟨rfl, rfl⟩ hl.1 rfl (Nat.le_of_ble_eq_true rfl) dX11_wish_71 ⟨Nat.le_of_ble_eq_true rfl, Nat.le_of_ble_eq_true rfl⟩ (fun v67 f68 H locs q69 hW => ?_)
          obtain ⟨⟨x71, rfl, p72⟩, g70⟩ := q69
          have p72 : (-6 : Int) ≤ x71.toInt ∧ x71.toInt ≤ -1 := p72
          have hF := FM.tr hF g70 rfl
          exact e_I E hW rfl ⟨⟨_, rfl, trivial⟩, hF⟩ dX11_wish_74
      · refine lv_aload_n hx hb dX11_wish_52 rfl (lv_at hl 0 rfl) ?_
        refine lv_bipush (v := (-4)) hx hb dX11_wish_53 (by decide) ?_
        refine t_callV (As := [.int (-4)]) (rest := []) E hW (c_X11_refuse l G cI cJ cZ cD cR cT kp L f29 hW.2.2.2 _ h0 (-4) rh0 (by decide)) rh0 (by decide) rfl wk_X11_refuse tw_603 rfl ⟨Nat.le_of_ble_eq_true rfl, Nat.le_of_ble_eq_true rfl⟩ ⟨rfl, rfl⟩ hl.1 rfl (Nat.le_of_ble_eq_true rfl) dX11_wish_55 ⟨Nat.le_of_ble_eq_true rfl, Nat.le_of_ble_eq_true rfl⟩ (fun v73 f74 H locs q75 hW => ?_)
        obtain ⟨⟨x77, rfl, p78⟩, g76⟩ := q75
        have p78 : (-6 : Int) ≤ x77.toInt ∧ x77.toInt ≤ -1 := p78
        have hF := FM.tr hF g76 rfl
        exact e_I E hW rfl ⟨⟨_, rfl, trivial⟩, hF⟩ dX11_wish_58
    · refine lv_aload_n hx hb dX11_wish_37 rfl (lv_at hl 0 rfl) ?_
      refine lv_bipush (v := (-3)) hx hb dX11_wish_38 (by decide) ?_
      refine t_callV (As := [.int (-3)]) (rest := []) E hW (c_X11_refuse l G cI cJ cZ cD cR cT kp L f8 hW.2.2.2 _ h0 (-3) rh0 (by decide)) rh0 (by decide) rfl wk_X11_refuse tw_603 rfl ⟨Nat.le_of_ble_eq_true rfl, Nat.le_of_ble_eq_true rfl⟩ ⟨rfl, rfl⟩ hl.1 rfl (Nat.le_of_ble_eq_true rfl) dX11_wish_40 ⟨Nat.le_of_ble_eq_true rfl, Nat.le_of_ble_eq_true rfl⟩ (fun v79 f80 H locs q81 hW => ?_)
      obtain ⟨⟨x83, rfl, p84⟩, g82⟩ := q81
      have p84 : (-6 : Int) ≤ x83.toInt ∧ x83.toInt ≤ -1 := p84
      have hF := FM.tr hF g82 rfl
      exact e_I E hW rfl ⟨⟨_, rfl, trivial⟩, hF⟩ dX11_wish_43
  · clear p12
    refine lv_aload_n hx hb dX11_wish_14 rfl (lv_at hl 0 rfl) ?_
    refine lv_bipush (v := (-2)) hx hb dX11_wish_15 (by decide) ?_
    refine t_callV (As := [.int (-2)]) (rest := []) E hW (c_X11_refuse l G cI cJ cZ cD cR cT kp L f8 hW.2.2.2 _ h0 (-2) rh0 (by decide)) rh0 (by decide) rfl wk_X11_refuse tw_603 rfl ⟨Nat.le_of_ble_eq_true rfl, Nat.le_of_ble_eq_true rfl⟩ ⟨rfl, rfl⟩ hl.1 rfl (Nat.le_of_ble_eq_true rfl) dX11_wish_17 ⟨Nat.le_of_ble_eq_true rfl, Nat.le_of_ble_eq_true rfl⟩ (fun v85 f86 H locs q87 hW => ?_)
    obtain ⟨⟨x89, rfl, p90⟩, g88⟩ := q87
    have p90 : (-6 : Int) ≤ x89.toInt ∧ x89.toInt ≤ -1 := p90
    have hF := FM.tr hF g88 rfl
    exact e_I E hW rfl ⟨⟨_, rfl, trivial⟩, hF⟩ dX11_wish_20
def ms_X11_writ : List (Nat × Nat) := [(0, 14), (10, 0), (11, 15), (222, 0), (223, 0), (701, 0), (702, 0), (703, 0), (704, 0), (705, 0), (706, 0)]
def po_X11_writ (kp : Nat → Nat) (L : List Nat) (f0 : Nat → va_E) (h0 : Nat) (u1 : Int32) : Option Value → (Nat → va_E) → Prop := fun v f => (∃ r : Int32, v = some (.int r) ∧ (True)) ∧ FM kp L ms_X11_writ f0 f
set_option maxHeartbeats 4000000 in
set_option maxRecDepth 100000 in
theorem c_X11_writ (l : Launch) (G : va_G) (cI cJ cZ cD cR cT : ClassId) (kp : Nat → Nat) (L : List Nat) (f0 : Nat → va_E) (hTH : TH cI cJ cZ cD cR cT kp L f0) (sz : Nat) (h0 : Nat) (u1 : Int32) (rh0 : RK kp L h0 11) : Met l yX11_writ (Cond.code yX11_writ cX11_writ 4 (some .int) :: wTab) ({ frames := 4, cells := 0, slots := 0, locals := 108 }) (va_Pc [.ref h0, .int u1] (PreW G (tys6 cI cJ cZ cD cR cT) (va_pl L f0) sz)) (QT (po_X11_writ kp L f0 h0 u1) G cI cJ cZ cD cR cT (va_A (va_pl L f0) sz) kp L) 0 0 (va_A (va_pl L f0) sz) := by
  refine metT (by decide) (Nat.le_of_ble_eq_true rfl) hTH ?_
  intro p e s m below meth c A ls E hW hl
  obtain ⟨hx, hb, -, hml, hown, hts, -, -, -⟩ := id E
  have hF : FM kp L ms_X11_writ f0 f0 := FM.rf
  have hl : lv_has ls 4 [(0, .ref h0), (1, .int u1)] := hl
  refine lv_aload_n hx hb dX11_writ_0 rfl (lv_at hl 0 rfl) ?_
  refine fg_RX11_12 E hW rh0 dX11_writ_1 (fun a1 m2 r3 => ?_)
  refine fg_RX11_114 E hW r3 dX11_writ_4 (fun a4 m5 r6 => ?_)
  refine lv_astore_n (lv' := [(2, .ref a4), (0, .ref h0), (1, .int u1)]) hx hb dX11_writ_7 rfl hl (by decide) rfl (fun ls hl => ?_)
  refine lv_aload_n hx hb dX11_writ_8 rfl (lv_at hl 1 rfl) ?_
  refine fg_RX11_12 E hW rh0 dX11_writ_9 (fun a7 m8 r9 => ?_)
  obtain rfl : a1 = a7 := (m2).symm.trans m8
  refine fg_RX11_170 E hW r3 dX11_writ_12 (fun a10 m11 r12 => ?_)
  refine lv_astore_n (lv' := [(3, .ref a10), (2, .ref a4), (0, .ref h0), (1, .int u1)]) hx hb dX11_writ_15 rfl hl (by decide) rfl (fun ls hl => ?_)
  refine lv_aload_n hx hb dX11_writ_16 rfl (lv_at hl 1 rfl) ?_
  refine lv_iload_n hx hb dX11_writ_17 rfl (lv_at hl 3 rfl) ?_
  refine t_callV (As := [.int u1]) (rest := []) E hW (c_X1_has l G cI cJ cZ cD cR cT kp L f0 hW.2.2.2 _ a4 u1 r6) r6 (by decide) rfl wk_X1_has tw_683 rfl ⟨Nat.le_of_ble_eq_true rfl, Nat.le_of_ble_eq_true rfl⟩ ⟨rfl, rfl⟩ hl.1 rfl (Nat.le_of_ble_eq_true rfl) dX11_writ_18 ⟨Nat.le_of_ble_eq_true rfl, Nat.le_of_ble_eq_true rfl⟩ (fun v13 f14 H locs q15 hW => ?_)
  obtain ⟨⟨x17, rfl, p18⟩, g16⟩ := q15
  have hF := FM.tr hF g16 rfl
  refine q_if_ne (tgt := 31) hx hb dX11_writ_21 (by decide) rfl (fun c19 => ?_) (fun c19 => ?_)
  · have q20 : 0 ≤ u1.toInt ∧ u1.toInt ≤ 39 := by omega
    clear p18
    refine lv_aload_n hx hb dX11_writ_31 rfl (lv_at hl 1 rfl) ?_
    refine fg_RX11_154 E hW r6 dX11_writ_32 (fun a21 m22 r23 => ?_)
    refine lv_iload_n hx hb dX11_writ_35 rfl (lv_at hl 3 rfl) ?_
    refine gl_164 E hW r23 ⟨by omega, by omega⟩ dX11_writ_36 (fun y24 m25 b26 => ?_)
    refine lv_iconst (v := (-1)) hx hb dX11_writ_37 (by decide) ?_
    refine q_icmp_eq (Y := -1) (tgt := 59) hx hb dX11_writ_38 (by decide) rfl rfl (fun c27 => ?_) (fun c27 => ?_)
    · refine lv_aload_n hx hb dX11_writ_59 rfl (lv_at hl 2 rfl) ?_
      refine lv_bipush (v := (-3)) hx hb dX11_writ_60 (by decide) ?_
      refine t_callV (As := [.int (-3)]) (rest := []) E hW (c_X11_refuse l G cI cJ cZ cD cR cT kp L f14 hW.2.2.2 _ h0 (-3) rh0 (by decide)) rh0 (by decide) rfl wk_X11_refuse tw_603 rfl ⟨Nat.le_of_ble_eq_true rfl, Nat.le_of_ble_eq_true rfl⟩ ⟨rfl, rfl⟩ hl.1 rfl (Nat.le_of_ble_eq_true rfl) dX11_writ_62 ⟨Nat.le_of_ble_eq_true rfl, Nat.le_of_ble_eq_true rfl⟩ (fun v28 f29 H locs q30 hW => ?_)
      obtain ⟨⟨x32, rfl, p33⟩, g31⟩ := q30
      have p33 : (-6 : Int) ≤ x32.toInt ∧ x32.toInt ≤ -1 := p33
      have hF := FM.tr hF g31 rfl
      exact e_I E hW rfl ⟨⟨_, rfl, trivial⟩, hF⟩ dX11_writ_65
    · refine lv_aload_n hx hb dX11_writ_41 rfl (lv_at hl 1 rfl) ?_
      refine fg_RX11_160 E hW r6 dX11_writ_42 (fun a34 m35 r36 => ?_)
      refine lv_iload_n hx hb dX11_writ_45 rfl (lv_at hl 3 rfl) ?_
      refine gl_165 E hW r36 ⟨by omega, by omega⟩ dX11_writ_46 (fun y37 m38 => ?_)
      refine q_if_eq (tgt := 59) hx hb dX11_writ_47 (by decide) rfl (fun c40 => ?_) (fun c40 => ?_)
      · refine lv_aload_n hx hb dX11_writ_59 rfl (lv_at hl 2 rfl) ?_
        refine lv_bipush (v := (-3)) hx hb dX11_writ_60 (by decide) ?_
        refine t_callV (As := [.int (-3)]) (rest := []) E hW (c_X11_refuse l G cI cJ cZ cD cR cT kp L f14 hW.2.2.2 _ h0 (-3) rh0 (by decide)) rh0 (by decide) rfl wk_X11_refuse tw_603 rfl ⟨Nat.le_of_ble_eq_true rfl, Nat.le_of_ble_eq_true rfl⟩ ⟨rfl, rfl⟩ hl.1 rfl (Nat.le_of_ble_eq_true rfl) dX11_writ_62 ⟨Nat.le_of_ble_eq_true rfl, Nat.le_of_ble_eq_true rfl⟩ (fun v41 f42 H locs q43 hW => ?_)
        obtain ⟨⟨x45, rfl, p46⟩, g44⟩ := q43
        have p46 : (-6 : Int) ≤ x45.toInt ∧ x45.toInt ≤ -1 := p46
        have hF := FM.tr hF g44 rfl
        exact e_I E hW rfl ⟨⟨_, rfl, trivial⟩, hF⟩ dX11_writ_65
      · refine lv_aload_n hx hb dX11_writ_50 rfl (lv_at hl 0 rfl) ?_
        refine lv_iload_n hx hb dX11_writ_51 rfl (lv_at hl 3 rfl) ?_
        refine t_callV (As := [.int u1]) (rest := []) E hW (c_X10_openOn l G cI cJ cZ cD cR cT kp L f14 hW.2.2.2 _ a10 u1 r12 (by omega)) r12 (by decide) rfl wk_X10_openOn tw_1080 rfl ⟨Nat.le_of_ble_eq_true rfl, Nat.le_of_ble_eq_true rfl⟩ ⟨rfl, rfl⟩ hl.1 rfl (Nat.le_of_ble_eq_true rfl) dX11_writ_52 ⟨Nat.le_of_ble_eq_true rfl, Nat.le_of_ble_eq_true rfl⟩ (fun v47 f48 H locs q49 hW => ?_)
        obtain ⟨⟨x51, rfl, p52⟩, g50⟩ := q49
        have hF := FM.tr hF g50 rfl
        refine lv_iconst (v := (-1)) hx hb dX11_writ_55 (by decide) ?_
        refine q_icmp_eq (Y := -1) (tgt := 66) hx hb dX11_writ_56 (by decide) rfl rfl (fun c53 => ?_) (fun c53 => ?_)
        · refine lv_aload_n hx hb dX11_writ_66 rfl (lv_at hl 0 rfl) ?_
          refine fg_RX11_251 E hW r12 dX11_writ_67 (fun y54 m55 b56 => ?_)
          refine lv_bipush (v := 60) hx hb dX11_writ_70 (by decide) ?_
          refine q_icmp_lt (Y := 60) (tgt := 82) hx hb dX11_writ_72 (by decide) rfl rfl (fun c57 => ?_) (fun c57 => ?_)
          · refine lv_aload_n hx hb dX11_writ_82 rfl (lv_at hl 2 rfl) ?_
            refine fg_RX11_12 E hW rh0 dX11_writ_83 (fun a58 m59 r60 => ?_)
            obtain rfl : a1 = a58 := (((fm_R g50 rh0 rfl).trans ((fm_R g16 rh0 rfl).trans m8))).symm.trans m59
            refine t_callV (As := []) (rest := []) E hW (c_X0_lookAtNow l G cI cJ cZ cD cR cT kp L f48 hW.2.2.2 _ a1 r3) r3 (by decide) rfl wk_X0_lookAtNow tw_687 rfl ⟨Nat.le_of_ble_eq_true rfl, Nat.le_of_ble_eq_true rfl⟩ ⟨rfl, rfl⟩ hl.1 rfl (Nat.le_of_ble_eq_true rfl) dX11_writ_86 ⟨Nat.le_of_ble_eq_true rfl, Nat.le_of_ble_eq_true rfl⟩ (fun v61 f62 H locs q63 hW => ?_)
            obtain ⟨rfl, g64⟩ := q63
            have hF := FM.tr hF g64 rfl
            refine lv_aload_n hx hb dX11_writ_89 rfl (lv_at hl 0 rfl) ?_
            refine lv_iload_n hx hb dX11_writ_90 rfl (lv_at hl 3 rfl) ?_
            refine lv_aload_n hx hb dX11_writ_91 rfl (lv_at hl 1 rfl) ?_
            refine fg_RX11_154 E hW r6 dX11_writ_92 (fun a65 m66 r67 => ?_)
            obtain rfl : a21 = a65 := (((fm_R g64 r6 rfl).trans ((fm_R g50 r6 rfl).trans m22))).symm.trans m66
            refine lv_iload_n hx hb dX11_writ_95 rfl (lv_at hl 3 rfl) ?_
            refine gl_164 E hW r23 ⟨by omega, by omega⟩ dX11_writ_96 (fun y68 m69 b70 => ?_)
            obtain rfl : y24 = y68 := (((congrArg (fun z => aI z (u1 : Int32).toNatClampNeg) (fm_A g64 r23 (by decide) rfl)).trans ((congrArg (fun z => aI z (u1 : Int32).toNatClampNeg) (fm_A g50 r23 (by decide) rfl)).trans m25))).symm.trans m69
            refine lv_aload_n hx hb dX11_writ_97 rfl (lv_at hl 2 rfl) ?_
            refine fg_RX11_12 E hW rh0 dX11_writ_98 (fun a71 m72 r73 => ?_)
            obtain rfl : a1 = a71 := (((fm_R g64 rh0 rfl).trans m59)).symm.trans m72
            refine fg_RX11_219 E hW r3 dX11_writ_101 (fun a74 m75 r76 => ?_)
            refine lv_iconst (v := 0) hx hb dX11_writ_104 (by decide) ?_
            refine t_callV (As := [.int 0]) (rest := [.int y24, .int u1, .ref a10]) E hW (c_X2_weeksOf l G cI cJ cZ cD cR cT kp L f62 hW.2.2.2 _ a74 0 r76 (by decide)) r76 (by decide) rfl wk_X2_weeksOf tw_1081 rfl ⟨Nat.le_of_ble_eq_true rfl, Nat.le_of_ble_eq_true rfl⟩ ⟨rfl, rfl⟩ hl.1 rfl (Nat.le_of_ble_eq_true rfl) dX11_writ_105 ⟨Nat.le_of_ble_eq_true rfl, Nat.le_of_ble_eq_true rfl⟩ (fun v77 f78 H locs q79 hW => ?_)
            obtain ⟨⟨x81, rfl, p82⟩, g80⟩ := q79
            clear p82
            have hF := FM.tr hF g80 rfl
            refine lv_aload_n hx hb dX11_writ_108 rfl (lv_at hl 2 rfl) ?_
            refine fg_RX11_12 E hW rh0 dX11_writ_109 (fun a83 m84 r85 => ?_)
            obtain rfl : a1 = a83 := (((fm_R g80 rh0 rfl).trans m72)).symm.trans m84
            refine fg_RX11_255 E hW r3 dX11_writ_112 (fun y86 m87 b88 => ?_)
            refine t_callV (As := [.int u1, .int y24, .int x81, .int y86]) (rest := []) E hW (c_X10_add l G cI cJ cZ cD cR cT kp L f78 hW.2.2.2 _ a10 u1 y24 x81 y86 r12 (by omega) (by omega) (by omega)) r12 (by decide) rfl wk_X10_add tw_1085 rfl ⟨Nat.le_of_ble_eq_true rfl, Nat.le_of_ble_eq_true rfl⟩ ⟨rfl, rfl⟩ hl.1 rfl (Nat.le_of_ble_eq_true rfl) dX11_writ_115 ⟨Nat.le_of_ble_eq_true rfl, Nat.le_of_ble_eq_true rfl⟩ (fun v89 f90 H locs q91 hW => ?_)
            obtain ⟨rfl, g92⟩ := q91
            have hF := FM.tr hF g92 rfl
            refine lv_aload_n hx hb dX11_writ_118 rfl (lv_at hl 2 rfl) ?_
            refine lv_aload_n hx hb dX11_writ_119 rfl (lv_at hl 0 rfl) ?_
            refine fg_RX11_251 E hW r12 dX11_writ_120 (fun y93 m94 b95 => ?_)
            refine t_callV (As := [.int y93]) (rest := []) E hW (c_X11_accept l G cI cJ cZ cD cR cT kp L f90 hW.2.2.2 _ h0 y93 rh0) rh0 (by decide) rfl wk_X11_accept tw_611 rfl ⟨Nat.le_of_ble_eq_true rfl, Nat.le_of_ble_eq_true rfl⟩ ⟨rfl, rfl⟩ hl.1 rfl (Nat.le_of_ble_eq_true rfl) dX11_writ_123 ⟨Nat.le_of_ble_eq_true rfl, Nat.le_of_ble_eq_true rfl⟩ (fun v96 f97 H locs q98 hW => ?_)
            obtain ⟨⟨x100, rfl, p101⟩, g99⟩ := q98
            clear p101
            have hF := FM.tr hF g99 rfl
            exact e_I E hW rfl ⟨⟨_, rfl, trivial⟩, hF⟩ dX11_writ_126
          · refine lv_aload_n hx hb dX11_writ_75 rfl (lv_at hl 2 rfl) ?_
            refine lv_bipush (v := (-5)) hx hb dX11_writ_76 (by decide) ?_
            refine t_callV (As := [.int (-5)]) (rest := []) E hW (c_X11_refuse l G cI cJ cZ cD cR cT kp L f48 hW.2.2.2 _ h0 (-5) rh0 (by decide)) rh0 (by decide) rfl wk_X11_refuse tw_603 rfl ⟨Nat.le_of_ble_eq_true rfl, Nat.le_of_ble_eq_true rfl⟩ ⟨rfl, rfl⟩ hl.1 rfl (Nat.le_of_ble_eq_true rfl) dX11_writ_78 ⟨Nat.le_of_ble_eq_true rfl, Nat.le_of_ble_eq_true rfl⟩ (fun v102 f103 H locs q104 hW => ?_)
            obtain ⟨⟨x106, rfl, p107⟩, g105⟩ := q104
            have p107 : (-6 : Int) ≤ x106.toInt ∧ x106.toInt ≤ -1 := p107
            have hF := FM.tr hF g105 rfl
            exact e_I E hW rfl ⟨⟨_, rfl, trivial⟩, hF⟩ dX11_writ_81
        · refine lv_aload_n hx hb dX11_writ_59 rfl (lv_at hl 2 rfl) ?_
          refine lv_bipush (v := (-3)) hx hb dX11_writ_60 (by decide) ?_
          refine t_callV (As := [.int (-3)]) (rest := []) E hW (c_X11_refuse l G cI cJ cZ cD cR cT kp L f48 hW.2.2.2 _ h0 (-3) rh0 (by decide)) rh0 (by decide) rfl wk_X11_refuse tw_603 rfl ⟨Nat.le_of_ble_eq_true rfl, Nat.le_of_ble_eq_true rfl⟩ ⟨rfl, rfl⟩ hl.1 rfl (Nat.le_of_ble_eq_true rfl) dX11_writ_62 ⟨Nat.le_of_ble_eq_true rfl, Nat.le_of_ble_eq_true rfl⟩ (fun v108 f109 H locs q110 hW => ?_)
          obtain ⟨⟨x112, rfl, p113⟩, g111⟩ := q110
          have p113 : (-6 : Int) ≤ x112.toInt ∧ x112.toInt ≤ -1 := p113
          have hF := FM.tr hF g111 rfl
          exact e_I E hW rfl ⟨⟨_, rfl, trivial⟩, hF⟩ dX11_writ_65
  · clear p18
    refine lv_aload_n hx hb dX11_writ_24 rfl (lv_at hl 2 rfl) ?_
    refine lv_bipush (v := (-2)) hx hb dX11_writ_25 (by decide) ?_
    refine t_callV (As := [.int (-2)]) (rest := []) E hW (c_X11_refuse l G cI cJ cZ cD cR cT kp L f14 hW.2.2.2 _ h0 (-2) rh0 (by decide)) rh0 (by decide) rfl wk_X11_refuse tw_603 rfl ⟨Nat.le_of_ble_eq_true rfl, Nat.le_of_ble_eq_true rfl⟩ ⟨rfl, rfl⟩ hl.1 rfl (Nat.le_of_ble_eq_true rfl) dX11_writ_27 ⟨Nat.le_of_ble_eq_true rfl, Nat.le_of_ble_eq_true rfl⟩ (fun v114 f115 H locs q116 hW => ?_)
    obtain ⟨⟨x118, rfl, p119⟩, g117⟩ := q116
    have p119 : (-6 : Int) ≤ x118.toInt ∧ x118.toInt ≤ -1 := p119
    have hF := FM.tr hF g117 rfl
    exact e_I E hW rfl ⟨⟨_, rfl, trivial⟩, hF⟩ dX11_writ_30
