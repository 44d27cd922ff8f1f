theorem dX7_priceIn_0 : decode cX7_priceIn 0 = .ok (.iload_n 1, 1) := by decide +kernel
theorem dX7_priceIn_1 : decode cX7_priceIn 1 = .ok (.sipush 399, 3) := by decide +kernel
theorem dX7_priceIn_4 : decode cX7_priceIn 4 = .ok (.invokestatic 27, 3) := by decide +kernel
theorem dX7_priceIn_7 : decode cX7_priceIn 7 = .ok (.istore_n 2, 1) := by decide +kernel
theorem dX7_priceIn_8 : decode cX7_priceIn 8 = .ok (.iload_n 2, 1) := by decide +kernel
theorem dX7_priceIn_9 : decode cX7_priceIn 9 = .ok (.ifCond .lt 26, 3) := by decide +kernel
theorem dX7_priceIn_35 : decode cX7_priceIn 35 = .ok (.bipush 100, 2) := by decide +kernel
theorem dX7_priceIn_37 : decode cX7_priceIn 37 = .ok (.ireturn, 1) := by decide +kernel
theorem dX7_priceIn_12 : decode cX7_priceIn 12 = .ok (.aload_n 0, 1) := by decide +kernel
theorem dX7_priceIn_13 : decode cX7_priceIn 13 = .ok (.getfield 9, 3) := by decide +kernel
theorem dX7_priceIn_16 : decode cX7_priceIn 16 = .ok (.iload_n 2, 1) := by decide +kernel
theorem dX7_priceIn_17 : decode cX7_priceIn 17 = .ok (.iaload, 1) := by decide +kernel
theorem dX7_priceIn_18 : decode cX7_priceIn 18 = .ok (.iconst (-1), 1) := by decide +kernel
theorem dX7_priceIn_19 : decode cX7_priceIn 19 = .ok (.if_icmp .eq 10, 3) := by decide +kernel
theorem dX7_priceIn_29 : decode cX7_priceIn 29 = .ok (.iinc 2 (-1), 3) := by decide +kernel
theorem dX7_priceIn_32 : decode cX7_priceIn 32 = .ok (.goto (-24), 3) := by decide +kernel
theorem dX7_priceIn_22 : decode cX7_priceIn 22 = .ok (.aload_n 0, 1) := by decide +kernel
theorem dX7_priceIn_23 : decode cX7_priceIn 23 = .ok (.getfield 9, 3) := by decide +kernel
theorem dX7_priceIn_26 : decode cX7_priceIn 26 = .ok (.iload_n 2, 1) := by decide +kernel
theorem dX7_priceIn_27 : decode cX7_priceIn 27 = .ok (.iaload, 1) := by decide +kernel
theorem dX7_priceIn_28 : decode cX7_priceIn 28 = .ok (.ireturn, 1) := by decide +kernel
theorem dX0_passWeek_0 : decode cX0_passWeek 0 = .ok (.aload_n 0, 1) := by decide +kernel
theorem dX0_passWeek_1 : decode cX0_passWeek 1 = .ok (.getfield 93, 3) := by decide +kernel
theorem dX0_passWeek_4 : decode cX0_passWeek 4 = .ok (.sipush 399, 3) := by decide +kernel
theorem dX0_passWeek_7 : decode cX0_passWeek 7 = .ok (.if_icmp .lt 4, 3) := by decide +kernel
theorem dX0_passWeek_11 : decode cX0_passWeek 11 = .ok (.aload_n 0, 1) := by decide +kernel
theorem dX0_passWeek_12 : decode cX0_passWeek 12 = .ok (.invokevirtual 133, 3) := by decide +kernel
theorem dX0_lookAtNow_0 : decode cX0_lookAtNow 0 = .ok (.aload_n 0, 1) := by decide +kernel
theorem dX0_lookAtNow_1 : decode cX0_lookAtNow 1 = .ok (.getfield 42, 3) := by decide +kernel
theorem dX0_lookAtNow_4 : decode cX0_lookAtNow 4 = .ok (.aload_n 0, 1) := by decide +kernel
theorem dX0_lookAtNow_5 : decode cX0_lookAtNow 5 = .ok (.getfield 93, 3) := by decide +kernel
theorem dX0_lookAtNow_8 : decode cX0_lookAtNow 8 = .ok (.invokevirtual 113, 3) := by decide +kernel
theorem dX2_mark_0 : decode cX2_mark 0 = .ok (.aload_n 0, 1) := by decide +kernel
theorem dX2_mark_1 : decode cX2_mark 1 = .ok (.getfield 21, 3) := by decide +kernel
theorem dX2_mark_4 : decode cX2_mark 4 = .ok (.iconst 0, 1) := by decide +kernel
theorem dX2_mark_5 : decode cX2_mark 5 = .ok (.invokestatic 31, 3) := by decide +kernel
theorem dX2_mark_8 : decode cX2_mark 8 = .ok (.aload_n 0, 1) := by decide +kernel
theorem dX2_mark_9 : decode cX2_mark 9 = .ok (.getfield 24, 3) := by decide +kernel
theorem dX2_mark_12 : decode cX2_mark 12 = .ok (.iconst 1, 1) := by decide +kernel
theorem dX2_mark_13 : decode cX2_mark 13 = .ok (.isub, 1) := by decide +kernel
theorem dX2_mark_14 : decode cX2_mark 14 = .ok (.istore_n 2, 1) := by decide +kernel
theorem dX2_mark_15 : decode cX2_mark 15 = .ok (.iload_n 2, 1) := by decide +kernel
theorem dX2_mark_16 : decode cX2_mark 16 = .ok (.ifCond .lt 148, 3) := by decide +kernel
theorem dX2_mark_164 : decode cX2_mark 164 = .ok (.return_, 1) := by decide +kernel
theorem dX0_lookAtNow_11 : decode cX0_lookAtNow 11 = .ok (.aload_n 0, 1) := by decide +kernel
theorem dX0_lookAtNow_12 : decode cX0_lookAtNow 12 = .ok (.aload_n 0, 1) := by decide +kernel
theorem dX0_lookAtNow_13 : decode cX0_lookAtNow 13 = .ok (.getfield 97, 3) := by decide +kernel
theorem dX0_lookAtNow_16 : decode cX0_lookAtNow 16 = .ok (.ifCond .eq 10, 3) := by decide +kernel
theorem dX0_lookAtNow_26 : decode cX0_lookAtNow 26 = .ok (.aload_n 0, 1) := by decide +kernel
theorem dX0_lookAtNow_27 : decode cX0_lookAtNow 27 = .ok (.getfield 35, 3) := by decide +kernel
theorem dX0_lookAtNow_30 : decode cX0_lookAtNow 30 = .ok (.aload_n 0, 1) := by decide +kernel
theorem dX0_lookAtNow_31 : decode cX0_lookAtNow 31 = .ok (.getfield 93, 3) := by decide +kernel
theorem dX0_lookAtNow_34 : decode cX0_lookAtNow 34 = .ok (.invokevirtual 117, 3) := by decide +kernel
theorem dX0_lookAtNow_37 : decode cX0_lookAtNow 37 = .ok (.putfield 121, 3) := by decide +kernel
theorem dX0_lookAtNow_40 : decode cX0_lookAtNow 40 = .ok (.return_, 1) := by decide +kernel
theorem dX0_passWeek_15 : decode cX0_passWeek 15 = .ok (.aload_n 0, 1) := by decide +kernel
theorem dX0_passWeek_16 : decode cX0_passWeek 16 = .ok (.invokevirtual 136, 3) := by decide +kernel
theorem dX0_reap_0 : decode cX0_reap 0 = .ok (.aload_n 0, 1) := by decide +kernel
theorem dX0_reap_1 : decode cX0_reap 1 = .ok (.getfield 97, 3) := by decide +kernel
theorem dX0_reap_4 : decode cX0_reap 4 = .ok (.ifCond .eq 21, 3) := by decide +kernel
theorem dX0_reap_25 : decode cX0_reap 25 = .ok (.aload_n 0, 1) := by decide +kernel
theorem dX0_reap_26 : decode cX0_reap 26 = .ok (.getfield 35, 3) := by decide +kernel
theorem dX0_reap_29 : decode cX0_reap 29 = .ok (.getfield 167, 3) := by decide +kernel
theorem dX0_reap_32 : decode cX0_reap 32 = .ok (.aload_n 0, 1) := by decide +kernel
theorem dX0_reap_33 : decode cX0_reap 33 = .ok (.getfield 93, 3) := by decide +kernel
theorem dX0_reap_36 : decode cX0_reap 36 = .ok (.aaload, 1) := by decide +kernel
theorem dX0_reap_37 : decode cX0_reap 37 = .ok (.ifnull 7, 3) := by decide +kernel
theorem dX0_reap_44 : decode cX0_reap 44 = .ok (.iconst 0, 1) := by decide +kernel
theorem dX0_reap_45 : decode cX0_reap 45 = .ok (.istore_n 1, 1) := by decide +kernel
theorem dX0_reap_46 : decode cX0_reap 46 = .ok (.iconst 0, 1) := by decide +kernel
theorem dX0_reap_47 : decode cX0_reap 47 = .ok (.istore_n 2, 1) := by decide +kernel
theorem dX0_reap_48 : decode cX0_reap 48 = .ok (.iload_n 1, 1) := by decide +kernel
theorem dX0_reap_49 : decode cX0_reap 49 = .ok (.ifCond .eq 96, 3) := by decide +kernel
theorem dX0_reap_145 : decode cX0_reap 145 = .ok (.return_, 1) := by decide +kernel
theorem dX0_passWeek_19 : decode cX0_passWeek 19 = .ok (.aload_n 0, 1) := by decide +kernel
theorem dX0_passWeek_20 : decode cX0_passWeek 20 = .ok (.getfield 93, 3) := by decide +kernel
theorem dX0_passWeek_23 : decode cX0_passWeek 23 = .ok (.ifCond .eq 32, 3) := by decide +kernel
theorem dX0_passWeek_55 : decode cX0_passWeek 55 = .ok (.iconst 0, 1) := by decide +kernel
theorem dX0_passWeek_56 : decode cX0_passWeek 56 = .ok (.istore_n 1, 1) := by decide +kernel
theorem dX0_passWeek_57 : decode cX0_passWeek 57 = .ok (.iload_n 1, 1) := by decide +kernel
theorem dX0_passWeek_58 : decode cX0_passWeek 58 = .ok (.aload_n 0, 1) := by decide +kernel
theorem dX0_passWeek_59 : decode cX0_passWeek 59 = .ok (.getfield 28, 3) := by decide +kernel
theorem dX0_passWeek_62 : decode cX0_passWeek 62 = .ok (.getfield 148, 3) := by decide +kernel
theorem dX0_passWeek_65 : decode cX0_passWeek 65 = .ok (.if_icmp .ge 27, 3) := by decide +kernel
theorem dX0_passWeek_92 : decode cX0_passWeek 92 = .ok (.aload_n 0, 1) := by decide +kernel
theorem dX0_passWeek_93 : decode cX0_passWeek 93 = .ok (.invokevirtual 157, 3) := by decide +kernel
theorem dX0_payDraws_0 : decode cX0_payDraws 0 = .ok (.iconst 0, 1) := by decide +kernel
theorem dX0_payDraws_1 : decode cX0_payDraws 1 = .ok (.istore_n 1, 1) := by decide +kernel
theorem dX0_payDraws_2 : decode cX0_payDraws 2 = .ok (.iload_n 1, 1) := by decide +kernel
theorem dX0_payDraws_3 : decode cX0_payDraws 3 = .ok (.aload_n 0, 1) := by decide +kernel
theorem dX0_payDraws_4 : decode cX0_payDraws 4 = .ok (.getfield 12, 3) := by decide +kernel
theorem dX0_payDraws_7 : decode cX0_payDraws 7 = .ok (.getfield 263, 3) := by decide +kernel
theorem dX0_payDraws_10 : decode cX0_payDraws 10 = .ok (.if_icmp .ge 87, 3) := by decide +kernel
theorem dX0_payDraws_97 : decode cX0_payDraws 97 = .ok (.return_, 1) := by decide +kernel
theorem dX0_passWeek_96 : decode cX0_passWeek 96 = .ok (.aload_n 0, 1) := by decide +kernel
theorem dX0_passWeek_97 : decode cX0_passWeek 97 = .ok (.getfield 64, 3) := by decide +kernel
theorem dX0_passWeek_100 : decode cX0_passWeek 100 = .ok (.ifCond .eq 13, 3) := by decide +kernel
theorem dX0_passWeek_113 : decode cX0_passWeek 113 = .ok (.aload_n 0, 1) := by decide +kernel
theorem dX0_passWeek_114 : decode cX0_passWeek 114 = .ok (.invokevirtual 164, 3) := by decide +kernel
theorem dX0_renewBans_0 : decode cX0_renewBans 0 = .ok (.iconst 0, 1) := by decide +kernel
theorem dX0_renewBans_1 : decode cX0_renewBans 1 = .ok (.istore_n 1, 1) := by decide +kernel
theorem dX0_renewBans_2 : decode cX0_renewBans 2 = .ok (.iload_n 1, 1) := by decide +kernel
theorem dX0_renewBans_3 : decode cX0_renewBans 3 = .ok (.aload_n 0, 1) := by decide +kernel
theorem dX0_renewBans_4 : decode cX0_renewBans 4 = .ok (.getfield 12, 3) := by decide +kernel
theorem dX0_renewBans_7 : decode cX0_renewBans 7 = .ok (.getfield 263, 3) := by decide +kernel
theorem dX0_renewBans_10 : decode cX0_renewBans 10 = .ok (.if_icmp .ge 35, 3) := by decide +kernel
theorem dX0_renewBans_45 : decode cX0_renewBans 45 = .ok (.aload_n 0, 1) := by decide +kernel
theorem dX0_renewBans_46 : decode cX0_renewBans 46 = .ok (.getfield 12, 3) := by decide +kernel
theorem dX0_renewBans_49 : decode cX0_renewBans 49 = .ok (.getfield 274, 3) := by decide +kernel
theorem dX0_renewBans_52 : decode cX0_renewBans 52 = .ok (.iconst 0, 1) := by decide +kernel
theorem dX0_renewBans_53 : decode cX0_renewBans 53 = .ok (.aload_n 0, 1) := by decide +kernel
theorem dX0_renewBans_54 : decode cX0_renewBans 54 = .ok (.getfield 12, 3) := by decide +kernel
theorem dX0_renewBans_57 : decode cX0_renewBans 57 = .ok (.getfield 277, 3) := by decide +kernel
theorem dX0_renewBans_60 : decode cX0_renewBans 60 = .ok (.iconst 0, 1) := by decide +kernel
theorem dX0_renewBans_61 : decode cX0_renewBans 61 = .ok (.aload_n 0, 1) := by decide +kernel
theorem dX0_renewBans_62 : decode cX0_renewBans 62 = .ok (.getfield 12, 3) := by decide +kernel
theorem dX0_renewBans_65 : decode cX0_renewBans 65 = .ok (.getfield 263, 3) := by decide +kernel
theorem dX0_renewBans_68 : decode cX0_renewBans 68 = .ok (.invokestatic 280, 3) := by decide +kernel
theorem dX0_renewBans_71 : decode cX0_renewBans 71 = .ok (.return_, 1) := by decide +kernel
theorem dX0_passWeek_117 : decode cX0_passWeek 117 = .ok (.aload_n 0, 1) := by decide +kernel
theorem dX0_passWeek_118 : decode cX0_passWeek 118 = .ok (.dup, 1) := by decide +kernel
theorem dX0_passWeek_119 : decode cX0_passWeek 119 = .ok (.getfield 93, 3) := by decide +kernel
theorem dX0_passWeek_122 : decode cX0_passWeek 122 = .ok (.iconst 1, 1) := by decide +kernel
theorem dX0_passWeek_123 : decode cX0_passWeek 123 = .ok (.iadd, 1) := by decide +kernel
theorem dX0_passWeek_124 : decode cX0_passWeek 124 = .ok (.putfield 93, 3) := by decide +kernel
theorem dX0_passWeek_127 : decode cX0_passWeek 127 = .ok (.return_, 1) := by decide +kernel
theorem dX0_passWeek_26 : decode cX0_passWeek 26 = .ok (.aload_n 0, 1) := by decide +kernel
theorem dX0_passWeek_27 : decode cX0_passWeek 27 = .ok (.getfield 93, 3) := by decide +kernel
theorem dX0_passWeek_30 : decode cX0_passWeek 30 = .ok (.bipush 13, 2) := by decide +kernel
theorem dX0_passWeek_32 : decode cX0_passWeek 32 = .ok (.irem, 1) := by decide +kernel
theorem dX0_passWeek_33 : decode cX0_passWeek 33 = .ok (.ifCond .ne 22, 3) := by decide +kernel
theorem dX0_passWeek_36 : decode cX0_passWeek 36 = .ok (.aload_n 0, 1) := by decide +kernel
theorem dX0_passWeek_37 : decode cX0_passWeek 37 = .ok (.invokevirtual 139, 3) := by decide +kernel
theorem dX0_collectRents_0 : decode cX0_collectRents 0 = .ok (.iconst 0, 1) := by decide +kernel
theorem dX0_collectRents_1 : decode cX0_collectRents 1 = .ok (.istore_n 1, 1) := by decide +kernel
theorem dX0_collectRents_2 : decode cX0_collectRents 2 = .ok (.iload_n 1, 1) := by decide +kernel
theorem dX0_collectRents_3 : decode cX0_collectRents 3 = .ok (.aload_n 0, 1) := by decide +kernel
theorem dX0_collectRents_4 : decode cX0_collectRents 4 = .ok (.getfield 21, 3) := by decide +kernel
theorem dX0_collectRents_7 : decode cX0_collectRents 7 = .ok (.getfield 171, 3) := by decide +kernel
theorem dX0_collectRents_10 : decode cX0_collectRents 10 = .ok (.if_icmp .ge 171, 3) := by decide +kernel
theorem dX0_collectRents_181 : decode cX0_collectRents 181 = .ok (.return_, 1) := by decide +kernel
theorem dX0_passWeek_40 : decode cX0_passWeek 40 = .ok (.aload_n 0, 1) := by decide +kernel
theorem dX0_passWeek_41 : decode cX0_passWeek 41 = .ok (.invokevirtual 142, 3) := by decide +kernel
theorem dX0_payMortgages_0 : decode cX0_payMortgages 0 = .ok (.iconst 0, 1) := by decide +kernel
theorem dX0_payMortgages_1 : decode cX0_payMortgages 1 = .ok (.istore_n 1, 1) := by decide +kernel
theorem dX0_payMortgages_2 : decode cX0_payMortgages 2 = .ok (.iload_n 1, 1) := by decide +kernel
theorem dX0_payMortgages_3 : decode cX0_payMortgages 3 = .ok (.aload_n 0, 1) := by decide +kernel
theorem dX0_payMortgages_4 : decode cX0_payMortgages 4 = .ok (.getfield 21, 3) := by decide +kernel
theorem dX0_payMortgages_7 : decode cX0_payMortgages 7 = .ok (.getfield 216, 3) := by decide +kernel
theorem dX0_payMortgages_10 : decode cX0_payMortgages 10 = .ok (.if_icmp .ge 96, 3) := by decide +kernel
theorem dX0_payMortgages_106 : decode cX0_payMortgages 106 = .ok (.return_, 1) := by decide +kernel
theorem dX0_passWeek_44 : decode cX0_passWeek 44 = .ok (.aload_n 0, 1) := by decide +kernel
theorem dX0_passWeek_45 : decode cX0_passWeek 45 = .ok (.getfield 97, 3) := by decide +kernel
theorem dX0_passWeek_48 : decode cX0_passWeek 48 = .ok (.ifCond .eq 7, 3) := by decide +kernel
theorem dX11_go_0 : decode cX11_go 0 = .ok (.aload_n 0, 1) := by decide +kernel
theorem dX11_go_1 : decode cX11_go 1 = .ok (.iload_n 1, 1) := by decide +kernel
theorem dX11_go_2 : decode cX11_go 2 = .ok (.invokevirtual 273, 3) := by decide +kernel
theorem dX11_go_5 : decode cX11_go 5 = .ok (.ifCond .ne 9, 3) := by decide +kernel
theorem dX11_go_14 : decode cX11_go 14 = .ok (.iconst 0, 1) := by decide +kernel
theorem dX11_go_15 : decode cX11_go 15 = .ok (.istore_n 2, 1) := by decide +kernel
theorem dX11_go_16 : decode cX11_go 16 = .ok (.iload_n 2, 1) := by decide +kernel
theorem dX11_go_17 : decode cX11_go 17 = .ok (.iload_n 1, 1) := by decide +kernel
theorem dX11_go_18 : decode cX11_go 18 = .ok (.if_icmp .ge 16, 3) := by decide +kernel
theorem dX11_go_34 : decode cX11_go 34 = .ok (.aload_n 0, 1) := by decide +kernel
theorem dX11_go_35 : decode cX11_go 35 = .ok (.aload_n 0, 1) := by decide +kernel
theorem dX11_go_36 : decode cX11_go 36 = .ok (.getfield 12, 3) := by decide +kernel
theorem dX11_go_39 : decode cX11_go 39 = .ok (.getfield 255, 3) := by decide +kernel
theorem dX11_go_42 : decode cX11_go 42 = .ok (.invokevirtual 77, 3) := by decide +kernel
theorem dX11_go_45 : decode cX11_go 45 = .ok (.ireturn, 1) := by decide +kernel
theorem dX11_go_21 : decode cX11_go 21 = .ok (.aload_n 0, 1) := by decide +kernel
theorem dX11_go_22 : decode cX11_go 22 = .ok (.getfield 12, 3) := by decide +kernel
theorem dX11_go_25 : decode cX11_go 25 = .ok (.invokevirtual 276, 3) := by decide +kernel
theorem dX11_go_28 : decode cX11_go 28 = .ok (.iinc 2 1, 3) := by decide +kernel
theorem dX11_go_31 : decode cX11_go 31 = .ok (.goto (-15), 3) := by decide +kernel
theorem dX11_go_8 : decode cX11_go 8 = .ok (.aload_n 0, 1) := by decide +kernel
theorem dX11_go_9 : decode cX11_go 9 = .ok (.iconst (-1), 1) := by decide +kernel
theorem dX11_go_10 : decode cX11_go 10 = .ok (.invokevirtual 59, 3) := by decide +kernel
theorem dX11_go_13 : decode cX11_go 13 = .ok (.ireturn, 1) := by decide +kernel
theorem dX12_priceNow_0 : decode cX12_priceNow 0 = .ok (.aload_n 0, 1) := by decide +kernel
theorem dX12_priceNow_1 : decode cX12_priceNow 1 = .ok (.getfield 161, 3) := by decide +kernel
theorem dX12_priceNow_4 : decode cX12_priceNow 4 = .ok (.ifCond .eq 8, 3) := by decide +kernel
theorem dX12_priceNow_12 : decode cX12_priceNow 12 = .ok (.bipush 100, 2) := by decide +kernel
theorem dX12_priceNow_14 : decode cX12_priceNow 14 = .ok (.istore_n 1, 1) := by decide +kernel
theorem dX12_priceNow_15 : decode cX12_priceNow 15 = .ok (.iconst 0, 1) := by decide +kernel
theorem dX12_priceNow_16 : decode cX12_priceNow 16 = .ok (.istore_n 2, 1) := by decide +kernel
theorem dX12_priceNow_17 : decode cX12_priceNow 17 = .ok (.iload_n 2, 1) := by decide +kernel
theorem dX12_priceNow_18 : decode cX12_priceNow 18 = .ok (.aload_n 0, 1) := by decide +kernel
theorem dX12_priceNow_19 : decode cX12_priceNow 19 = .ok (.getfield 8, 3) := by decide +kernel
theorem dX12_priceNow_22 : decode cX12_priceNow 22 = .ok (.bipush 8, 2) := by decide +kernel
theorem dX12_priceNow_24 : decode cX12_priceNow 24 = .ok (.iaload, 1) := by decide +kernel
theorem dX12_priceNow_25 : decode cX12_priceNow 25 = .ok (.if_icmp .gt 39, 3) := by decide +kernel
theorem dX12_priceNow_64 : decode cX12_priceNow 64 = .ok (.iload_n 1, 1) := by decide +kernel
theorem dX12_priceNow_65 : decode cX12_priceNow 65 = .ok (.ireturn, 1) := by decide +kernel
theorem dX12_priceNow_28 : decode cX12_priceNow 28 = .ok (.aload_n 0, 1) := by decide +kernel
theorem dX12_priceNow_29 : decode cX12_priceNow 29 = .ok (.getfield 8, 3) := by decide +kernel
theorem dX12_priceNow_32 : decode cX12_priceNow 32 = .ok (.sipush 1182, 3) := by decide +kernel
theorem dX12_priceNow_35 : decode cX12_priceNow 35 = .ok (.iload_n 2, 1) := by decide +kernel
theorem dX12_priceNow_36 : decode cX12_priceNow 36 = .ok (.iadd, 1) := by decide +kernel
theorem dX12_priceNow_37 : decode cX12_priceNow 37 = .ok (.iaload, 1) := by decide +kernel
theorem dX12_priceNow_38 : decode cX12_priceNow 38 = .ok (.ifCond .le 18, 3) := by decide +kernel
theorem dX12_priceNow_56 : decode cX12_priceNow 56 = .ok (.iload_n 1, 1) := by decide +kernel
theorem dX12_priceNow_57 : decode cX12_priceNow 57 = .ok (.istore_n 1, 1) := by decide +kernel
theorem dX12_priceNow_58 : decode cX12_priceNow 58 = .ok (.iinc 2 1, 3) := by decide +kernel
theorem dX12_priceNow_61 : decode cX12_priceNow 61 = .ok (.goto (-44), 3) := by decide +kernel
theorem dX12_priceNow_41 : decode cX12_priceNow 41 = .ok (.aload_n 0, 1) := by decide +kernel
theorem dX12_priceNow_42 : decode cX12_priceNow 42 = .ok (.getfield 8, 3) := by decide +kernel
theorem dX12_priceNow_45 : decode cX12_priceNow 45 = .ok (.sipush 1182, 3) := by decide +kernel
theorem dX12_priceNow_48 : decode cX12_priceNow 48 = .ok (.iload_n 2, 1) := by decide +kernel
theorem dX12_priceNow_49 : decode cX12_priceNow 49 = .ok (.iadd, 1) := by decide +kernel
theorem dX12_priceNow_50 : decode cX12_priceNow 50 = .ok (.iaload, 1) := by decide +kernel
theorem dX12_priceNow_51 : decode cX12_priceNow 51 = .ok (.iconst 1, 1) := by decide +kernel
theorem dX12_priceNow_52 : decode cX12_priceNow 52 = .ok (.isub, 1) := by decide +kernel
theorem dX12_priceNow_53 : decode cX12_priceNow 53 = .ok (.goto 4, 3) := by decide +kernel
theorem dX12_goWeek_0 : decode cX12_goWeek 0 = .ok (.aload_n 0, 1) := by decide +kernel
theorem dX12_goWeek_1 : decode cX12_goWeek 1 = .ok (.invokevirtual 147, 3) := by decide +kernel
theorem dX12_forceNow_0 : decode cX12_forceNow 0 = .ok (.aload_n 0, 1) := by decide +kernel
theorem dX12_forceNow_1 : decode cX12_forceNow 1 = .ok (.aload_n 0, 1) := by decide +kernel
theorem dX12_forceNow_2 : decode cX12_forceNow 2 = .ok (.getfield 8, 3) := by decide +kernel
theorem dX12_forceNow_5 : decode cX12_forceNow 5 = .ok (.bipush 8, 2) := by decide +kernel
theorem dX12_forceNow_7 : decode cX12_forceNow 7 = .ok (.iaload, 1) := by decide +kernel
theorem dX12_forceNow_8 : decode cX12_forceNow 8 = .ok (.invokevirtual 392, 3) := by decide +kernel
theorem dX12_findForce_0 : decode cX12_findForce 0 = .ok (.iconst 0, 1) := by decide +kernel
theorem dX12_findForce_1 : decode cX12_findForce 1 = .ok (.istore_n 2, 1) := by decide +kernel
theorem dX12_findForce_2 : decode cX12_findForce 2 = .ok (.iload_n 2, 1) := by decide +kernel
theorem dX12_findForce_3 : decode cX12_findForce 3 = .ok (.sipush 240, 3) := by decide +kernel
theorem dX12_findForce_6 : decode cX12_findForce 6 = .ok (.if_icmp .ge 16, 3) := by decide +kernel
theorem dX12_findForce_22 : decode cX12_findForce 22 = .ok (.aload_n 0, 1) := by decide +kernel
theorem dX12_findForce_23 : decode cX12_findForce 23 = .ok (.getfield 8, 3) := by decide +kernel
theorem dX12_findForce_26 : decode cX12_findForce 26 = .ok (.iconst 3, 1) := by decide +kernel
theorem dX12_findForce_27 : decode cX12_findForce 27 = .ok (.iaload, 1) := by decide +kernel
theorem dX12_findForce_28 : decode cX12_findForce 28 = .ok (.iconst 1, 1) := by decide +kernel
theorem dX12_findForce_29 : decode cX12_findForce 29 = .ok (.isub, 1) := by decide +kernel
theorem dX12_findForce_30 : decode cX12_findForce 30 = .ok (.istore_n 2, 1) := by decide +kernel
theorem dX12_findForce_31 : decode cX12_findForce 31 = .ok (.iload_n 2, 1) := by decide +kernel
theorem dX12_findForce_32 : decode cX12_findForce 32 = .ok (.ifCond .lt 137, 3) := by decide +kernel
theorem dX12_findForce_169 : decode cX12_findForce 169 = .ok (.return_, 1) := by decide +kernel
theorem dX12_findForce_9 : decode cX12_findForce 9 = .ok (.aload_n 0, 1) := by decide +kernel
theorem dX12_findForce_10 : decode cX12_findForce 10 = .ok (.getfield 57, 3) := by decide +kernel
theorem dX12_findForce_13 : decode cX12_findForce 13 = .ok (.iload_n 2, 1) := by decide +kernel
theorem dX12_findForce_14 : decode cX12_findForce 14 = .ok (.iconst 0, 1) := by decide +kernel
theorem dX12_findForce_15 : decode cX12_findForce 15 = .ok (.bastore, 1) := by decide +kernel
theorem dX12_findForce_16 : decode cX12_findForce 16 = .ok (.iinc 2 1, 3) := by decide +kernel
theorem dX12_findForce_19 : decode cX12_findForce 19 = .ok (.goto (-17), 3) := by decide +kernel
theorem dX12_forceNow_11 : decode cX12_forceNow 11 = .ok (.return_, 1) := by decide +kernel
theorem dX12_goWeek_4 : decode cX12_goWeek 4 = .ok (.aload_n 0, 1) := by decide +kernel
theorem dX12_goWeek_5 : decode cX12_goWeek 5 = .ok (.invokevirtual 464, 3) := by decide +kernel
theorem dX12_bringCrops_0 : decode cX12_bringCrops 0 = .ok (.iconst 0, 1) := by decide +kernel
theorem dX12_bringCrops_1 : decode cX12_bringCrops 1 = .ok (.istore_n 1, 1) := by decide +kernel
theorem dX12_bringCrops_2 : decode cX12_bringCrops 2 = .ok (.iload_n 1, 1) := by decide +kernel
theorem dX12_bringCrops_3 : decode cX12_bringCrops 3 = .ok (.aload_n 0, 1) := by decide +kernel
theorem dX12_bringCrops_4 : decode cX12_bringCrops 4 = .ok (.getfield 8, 3) := by decide +kernel
theorem dX12_bringCrops_7 : decode cX12_bringCrops 7 = .ok (.iconst 2, 1) := by decide +kernel
theorem dX12_bringCrops_8 : decode cX12_bringCrops 8 = .ok (.iaload, 1) := by decide +kernel
theorem dX12_bringCrops_9 : decode cX12_bringCrops 9 = .ok (.if_icmp .ge 115, 3) := by decide +kernel
theorem dX12_bringCrops_124 : decode cX12_bringCrops 124 = .ok (.return_, 1) := by decide +kernel
theorem dX12_goWeek_8 : decode cX12_goWeek 8 = .ok (.aload_n 0, 1) := by decide +kernel
theorem dX12_goWeek_9 : decode cX12_goWeek 9 = .ok (.getfield 8, 3) := by decide +kernel
theorem dX12_goWeek_12 : decode cX12_goWeek 12 = .ok (.bipush 8, 2) := by decide +kernel
theorem dX12_goWeek_14 : decode cX12_goWeek 14 = .ok (.iaload, 1) := by decide +kernel
theorem dX12_goWeek_15 : decode cX12_goWeek 15 = .ok (.bipush 13, 2) := by decide +kernel
theorem dX12_goWeek_17 : decode cX12_goWeek 17 = .ok (.irem, 1) := by decide +kernel
theorem dX12_goWeek_18 : decode cX12_goWeek 18 = .ok (.ifCond .ne 66, 3) := by decide +kernel
theorem dX12_goWeek_84 : decode cX12_goWeek 84 = .ok (.iconst 0, 1) := by decide +kernel
theorem dX12_goWeek_85 : decode cX12_goWeek 85 = .ok (.istore_n 1, 1) := by decide +kernel
theorem dX12_goWeek_86 : decode cX12_goWeek 86 = .ok (.iload_n 1, 1) := by decide +kernel
theorem dX12_goWeek_87 : decode cX12_goWeek 87 = .ok (.aload_n 0, 1) := by decide +kernel
theorem dX12_goWeek_88 : decode cX12_goWeek 88 = .ok (.getfield 8, 3) := by decide +kernel
theorem dX12_goWeek_91 : decode cX12_goWeek 91 = .ok (.iconst 4, 1) := by decide +kernel
theorem dX12_goWeek_92 : decode cX12_goWeek 92 = .ok (.iaload, 1) := by decide +kernel
theorem dX12_goWeek_93 : decode cX12_goWeek 93 = .ok (.if_icmp .ge 39, 3) := by decide +kernel
theorem dX12_goWeek_132 : decode cX12_goWeek 132 = .ok (.iconst 0, 1) := by decide +kernel
theorem dX12_goWeek_133 : decode cX12_goWeek 133 = .ok (.istore_n 1, 1) := by decide +kernel
theorem dX12_goWeek_134 : decode cX12_goWeek 134 = .ok (.iload_n 1, 1) := by decide +kernel
theorem dX12_goWeek_135 : decode cX12_goWeek 135 = .ok (.aload_n 0, 1) := by decide +kernel
theorem dX12_goWeek_136 : decode cX12_goWeek 136 = .ok (.getfield 8, 3) := by decide +kernel
theorem dX12_goWeek_139 : decode cX12_goWeek 139 = .ok (.iconst 0, 1) := by decide +kernel
theorem dX12_goWeek_140 : decode cX12_goWeek 140 = .ok (.iaload, 1) := by decide +kernel
theorem dX12_goWeek_141 : decode cX12_goWeek 141 = .ok (.if_icmp .ge 96, 3) := by decide +kernel
theorem dX12_goWeek_237 : decode cX12_goWeek 237 = .ok (.iconst 0, 1) := by decide +kernel
theorem dX12_goWeek_238 : decode cX12_goWeek 238 = .ok (.istore_n 1, 1) := by decide +kernel
theorem dX12_goWeek_239 : decode cX12_goWeek 239 = .ok (.iload_n 1, 1) := by decide +kernel
theorem dX12_goWeek_240 : decode cX12_goWeek 240 = .ok (.aload_n 0, 1) := by decide +kernel
theorem dX12_goWeek_241 : decode cX12_goWeek 241 = .ok (.getfield 8, 3) := by decide +kernel
theorem dX12_goWeek_244 : decode cX12_goWeek 244 = .ok (.iconst 0, 1) := by decide +kernel
theorem dX12_goWeek_245 : decode cX12_goWeek 245 = .ok (.iaload, 1) := by decide +kernel
theorem dX12_goWeek_246 : decode cX12_goWeek 246 = .ok (.if_icmp .ge 22, 3) := by decide +kernel
theorem dX12_goWeek_268 : decode cX12_goWeek 268 = .ok (.iconst 0, 1) := by decide +kernel
theorem dX12_goWeek_269 : decode cX12_goWeek 269 = .ok (.istore_n 1, 1) := by decide +kernel
theorem dX12_goWeek_270 : decode cX12_goWeek 270 = .ok (.iload_n 1, 1) := by decide +kernel
theorem dX12_goWeek_271 : decode cX12_goWeek 271 = .ok (.aload_n 0, 1) := by decide +kernel
theorem dX12_goWeek_272 : decode cX12_goWeek 272 = .ok (.getfield 8, 3) := by decide +kernel
theorem dX12_goWeek_275 : decode cX12_goWeek 275 = .ok (.iconst 0, 1) := by decide +kernel
theorem dX12_goWeek_276 : decode cX12_goWeek 276 = .ok (.iaload, 1) := by decide +kernel
theorem dX12_goWeek_277 : decode cX12_goWeek 277 = .ok (.if_icmp .ge 35, 3) := by decide +kernel
theorem dX12_goWeek_312 : decode cX12_goWeek 312 = .ok (.aload_n 0, 1) := by decide +kernel
theorem dX12_goWeek_313 : decode cX12_goWeek 313 = .ok (.getfield 8, 3) := by decide +kernel
theorem dX12_goWeek_316 : decode cX12_goWeek 316 = .ok (.bipush 8, 2) := by decide +kernel
theorem dX12_goWeek_318 : decode cX12_goWeek 318 = .ok (.dup2, 1) := by decide +kernel
theorem dX12_goWeek_319 : decode cX12_goWeek 319 = .ok (.iaload, 1) := by decide +kernel
theorem dX12_goWeek_320 : decode cX12_goWeek 320 = .ok (.iconst 1, 1) := by decide +kernel
theorem dX12_goWeek_321 : decode cX12_goWeek 321 = .ok (.iadd, 1) := by decide +kernel
theorem dX12_goWeek_322 : decode cX12_goWeek 322 = .ok (.iastore, 1) := by decide +kernel
theorem dX12_goWeek_323 : decode cX12_goWeek 323 = .ok (.return_, 1) := by decide +kernel
theorem dX12_goWeek_21 : decode cX12_goWeek 21 = .ok (.aload_n 0, 1) := by decide +kernel
theorem dX12_goWeek_22 : decode cX12_goWeek 22 = .ok (.getfield 8, 3) := by decide +kernel
theorem dX12_goWeek_25 : decode cX12_goWeek 25 = .ok (.bipush 8, 2) := by decide +kernel
theorem dX12_goWeek_27 : decode cX12_goWeek 27 = .ok (.iaload, 1) := by decide +kernel
theorem dX12_goWeek_28 : decode cX12_goWeek 28 = .ok (.ifCond .le 56, 3) := by decide +kernel
theorem dX12_goWeek_31 : decode cX12_goWeek 31 = .ok (.aload_n 0, 1) := by decide +kernel
theorem dX12_goWeek_32 : decode cX12_goWeek 32 = .ok (.invokevirtual 467, 3) := by decide +kernel
theorem dX12_payRents_0 : decode cX12_payRents 0 = .ok (.aload_n 0, 1) := by decide +kernel
theorem dX12_payRents_1 : decode cX12_payRents 1 = .ok (.invokevirtual 399, 3) := by decide +kernel
theorem dX12_payRents_4 : decode cX12_payRents 4 = .ok (.istore_n 1, 1) := by decide +kernel
theorem dX12_payRents_5 : decode cX12_payRents 5 = .ok (.iconst 0, 1) := by decide +kernel
theorem dX12_payRents_6 : decode cX12_payRents 6 = .ok (.istore_n 2, 1) := by decide +kernel
theorem dX12_payRents_7 : decode cX12_payRents 7 = .ok (.iload_n 2, 1) := by decide +kernel
theorem dX12_payRents_8 : decode cX12_payRents 8 = .ok (.aload_n 0, 1) := by decide +kernel
theorem dX12_payRents_9 : decode cX12_payRents 9 = .ok (.getfield 8, 3) := by decide +kernel
theorem dX12_payRents_12 : decode cX12_payRents 12 = .ok (.iconst 2, 1) := by decide +kernel
theorem dX12_payRents_13 : decode cX12_payRents 13 = .ok (.iaload, 1) := by decide +kernel
theorem dX12_payRents_14 : decode cX12_payRents 14 = .ok (.if_icmp .ge 280, 3) := by decide +kernel
theorem dX12_payRents_294 : decode cX12_payRents 294 = .ok (.iconst 0, 1) := by decide +kernel
theorem dX12_payRents_295 : decode cX12_payRents 295 = .ok (.istore_n 2, 1) := by decide +kernel
theorem dX12_payRents_296 : decode cX12_payRents 296 = .ok (.iload_n 2, 1) := by decide +kernel
theorem dX12_payRents_297 : decode cX12_payRents 297 = .ok (.aload_n 0, 1) := by decide +kernel
theorem dX12_payRents_298 : decode cX12_payRents 298 = .ok (.getfield 8, 3) := by decide +kernel
theorem dX12_payRents_301 : decode cX12_payRents 301 = .ok (.iconst 1, 1) := by decide +kernel
theorem dX12_payRents_302 : decode cX12_payRents 302 = .ok (.iaload, 1) := by decide +kernel
theorem dX12_payRents_303 : decode cX12_payRents 303 = .ok (.if_icmp .ge 86, 3) := by decide +kernel
theorem dX12_payRents_389 : decode cX12_payRents 389 = .ok (.return_, 1) := by decide +kernel
theorem dX12_goWeek_35 : decode cX12_goWeek 35 = .ok (.iconst 0, 1) := by decide +kernel
theorem dX12_goWeek_36 : decode cX12_goWeek 36 = .ok (.istore_n 1, 1) := by decide +kernel
theorem dX12_goWeek_37 : decode cX12_goWeek 37 = .ok (.iload_n 1, 1) := by decide +kernel
theorem dX12_goWeek_38 : decode cX12_goWeek 38 = .ok (.aload_n 0, 1) := by decide +kernel
theorem dX12_goWeek_39 : decode cX12_goWeek 39 = .ok (.getfield 8, 3) := by decide +kernel
theorem dX12_goWeek_42 : decode cX12_goWeek 42 = .ok (.iconst 2, 1) := by decide +kernel
theorem dX12_goWeek_43 : decode cX12_goWeek 43 = .ok (.iaload, 1) := by decide +kernel
theorem dX12_goWeek_44 : decode cX12_goWeek 44 = .ok (.if_icmp .ge 40, 3) := by decide +kernel
theorem dX12_go_0 : decode cX12_go 0 = .ok (.aload_n 0, 1) := by decide +kernel
theorem dX12_go_1 : decode cX12_go 1 = .ok (.iconst 0, 1) := by decide +kernel
theorem dX12_go_2 : decode cX12_go 2 = .ok (.putfield 82, 3) := by decide +kernel
theorem dX12_go_5 : decode cX12_go 5 = .ok (.iload_n 1, 1) := by decide +kernel
theorem dX12_go_6 : decode cX12_go 6 = .ok (.i2l, 1) := by decide +kernel
theorem dX12_go_7 : decode cX12_go 7 = .ok (.lconst 1, 1) := by decide +kernel
theorem dX12_go_8 : decode cX12_go 8 = .ok (.ldc2_w 479, 3) := by decide +kernel
theorem dX12_go_11 : decode cX12_go 11 = .ok (.invokestatic 90, 3) := by decide +kernel
theorem dX12_go_14 : decode cX12_go 14 = .ok (.ifCond .eq 18, 3) := by decide +kernel
theorem dX12_go_17 : decode cX12_go 17 = .ok (.aload_n 0, 1) := by decide +kernel
theorem dX12_go_18 : decode cX12_go 18 = .ok (.getfield 8, 3) := by decide +kernel
theorem dX12_go_21 : decode cX12_go 21 = .ok (.bipush 8, 2) := by decide +kernel
theorem dX12_go_23 : decode cX12_go 23 = .ok (.iaload, 1) := by decide +kernel
theorem dX12_go_24 : decode cX12_go 24 = .ok (.iload_n 1, 1) := by decide +kernel
theorem dX12_go_25 : decode cX12_go 25 = .ok (.iadd, 1) := by decide +kernel
theorem dX12_go_26 : decode cX12_go 26 = .ok (.sipush 399, 3) := by decide +kernel
theorem dX12_go_29 : decode cX12_go 29 = .ok (.if_icmp .le 9, 3) := by decide +kernel
theorem dX12_go_38 : decode cX12_go 38 = .ok (.iconst 0, 1) := by decide +kernel
theorem dX12_go_39 : decode cX12_go 39 = .ok (.istore_n 2, 1) := by decide +kernel
theorem dX12_go_40 : decode cX12_go 40 = .ok (.iload_n 2, 1) := by decide +kernel
theorem dX12_go_41 : decode cX12_go 41 = .ok (.iload_n 1, 1) := by decide +kernel
theorem dX12_go_42 : decode cX12_go 42 = .ok (.if_icmp .ge 13, 3) := by decide +kernel
theorem dX12_go_55 : decode cX12_go 55 = .ok (.aload_n 0, 1) := by decide +kernel
theorem dX12_go_56 : decode cX12_go 56 = .ok (.aload_n 0, 1) := by decide +kernel
theorem dX12_go_57 : decode cX12_go 57 = .ok (.getfield 8, 3) := by decide +kernel
theorem dX12_go_60 : decode cX12_go 60 = .ok (.bipush 8, 2) := by decide +kernel
theorem dX12_go_62 : decode cX12_go 62 = .ok (.iaload, 1) := by decide +kernel
theorem dX12_go_63 : decode cX12_go 63 = .ok (.invokevirtual 94, 3) := by decide +kernel
theorem dX12_go_66 : decode cX12_go 66 = .ok (.ireturn, 1) := by decide +kernel
theorem dX12_go_45 : decode cX12_go 45 = .ok (.aload_n 0, 1) := by decide +kernel
theorem dX12_go_46 : decode cX12_go 46 = .ok (.invokevirtual 481, 3) := by decide +kernel
theorem dX12_go_49 : decode cX12_go 49 = .ok (.iinc 2 1, 3) := by decide +kernel
theorem dX12_go_52 : decode cX12_go 52 = .ok (.goto (-12), 3) := by decide +kernel
theorem dX12_go_32 : decode cX12_go 32 = .ok (.aload_n 0, 1) := by decide +kernel
theorem dX12_go_33 : decode cX12_go 33 = .ok (.iconst (-1), 1) := by decide +kernel
theorem dX12_go_34 : decode cX12_go 34 = .ok (.invokevirtual 94, 3) := by decide +kernel
theorem dX12_go_37 : decode cX12_go 37 = .ok (.ireturn, 1) := by decide +kernel
theorem upd_upd (f : Nat → Int32) (k : Nat) (x y : Int32) : upd (upd f k x) k y = upd f k y := by
  funext j
  by_cases h : j = k <;> simp [upd, h]
theorem mrow8 : upd mrow 8 (nI 0) = mrow := by
  funext j
  by_cases h : j = 8
  · subst h; rfl
  · simp [upd, h]
def d_X7_priceIn : List Cond := [Cond.methodLink RX7 27 Lib.Math.min.name, Cond.static Lib.Math.min.name, Cond.initialized "java/lang/Math", Cond.code Lib.Math.min.name Lib.Math.min.code 2 (some .int), Cond.fieldLink RX7 9 "NoRent$Seasons" "price" "[I"]
def v_X7_priceIn : List Cond := Cond.code yX7_priceIn cX7_priceIn 3 (some .int) :: (d_X7_priceIn ++ (wsX70 ++ ([] : List Cond)))
theorem cm_X7_priceIn_0 : ∀ w ∈ wsX70, w ∈ v_X7_priceIn := fun _ h => List.mem_cons_of_mem _ (List.mem_append_right _ (List.mem_append_left _ h))
theorem gd_X7_priceIn : Gd v_X7_priceIn := gd_mk (by decide +kernel) (gd_app gd_X7 gd_nil)
set_option maxHeartbeats 4000000 in
set_option maxRecDepth 100000 in
theorem c_X7_priceIn (l : Launch) (G : va_G) (cI cJ cZ cD cR cT : ClassId) (h0 : Nat) (mm : Nat) (h0_0 : Nat) (h0_1 : Nat) (fp : Nat → Int32) (sz : Nat) (hn_mm : mm ≤ 398) : Met l yX7_priceIn v_X7_priceIn ({ frames := 1, cells := 0, slots := 0, locals := 60 }) (va_Pc [.ref h0, .int (nI mm)] (PreW G (tys6 cI cJ cZ cD cR cT) [(h0, .inr (7, [.ref h0_0, .ref h0_1])), (h0_0, .inl (cI, 400, .inl fp))] sz)) (QW (RI (fun _ => True)) G (va_A [(h0, .inr (7, [.ref h0_0, .ref h0_1])), (h0_0, .inl (cI, 400, .inl fp))] sz) (fun q g => [(h0, .inr (7, [.ref h0_0, .ref h0_1])), (h0_0, .inl (cI, 400, .inl fp))])) 0 0 (va_A [(h0, .inr (7, [.ref h0_0, .ref h0_1])), (h0_0, .inl (cI, 400, .inl fp))] sz) := by
  refine metW (cc := cX7_priceIn) (maxL := 3) (ret := (some .int)) (by decide) rfl (Nat.le_of_ble_eq_true rfl) ?_
  intro p e s m below meth c A ls hx hb hr hml hown hts hlocks hin hKK hP hD hA hS hl
  have hK := hKK.1
  have hown : s.vm.findClass RX7 = some m.cls := hown
  have hl : lv_has ls 3 [(0, .ref h0), (1, .int (nI mm))] := hl
  have hP : va_P G vwCl [(h0, .inr (7, [.ref h0_0, .ref h0_1])), (h0_0, .inl (cI, 400, .inl fp))] s.heap := hP
  have hD : va_D A [(h0, .inr (7, [.ref h0_0, .ref h0_1])), (h0_0, .inl (cI, 400, .inl fp))] := hD
  have hI_mm : (nI mm).toInt = (mm : Int) := nI_toInt (by omega)
  refine lv_iload_n hx hb dX7_priceIn_0 rfl (lv_at hl 1 rfl) ?_
  refine lv_sipush (v := 399) hx hb dX7_priceIn_1 (by decide) ?_
  refine va_mmin hx hb (by rw [hml]; exact hl.1.symm) hown (hts _ (dmem (j := 0) rfl)) (hts _ (dmem (j := 1) rfl)) (hts _ (dmem (j := 2) rfl)) (hts _ (dmem (j := 3) rfl)) (Nat.le_of_ble_eq_true rfl) (Nat.le_of_ble_eq_true rfl) (Nat.le_of_ble_eq_true rfl) (Nat.le_of_ble_eq_true rfl) dX7_priceIn_4 ?_
  refine lv_topi (fun x1 ex1 => ?_)
  obtain rfl : (nI mm) = x1 := (ex1.trans (if_neg (fun h => by have h2 : (399 : Int) < (nI mm).toInt := Int32.lt_iff_toInt_lt.mp h; omega))).symm
  refine lv_istore_n (lv' := [(2, .int (nI mm)), (0, .ref h0), (1, .int (nI mm))]) hx hb dX7_priceIn_7 rfl hl (by decide) rfl (fun ls hl => ?_)
  have loop8 : ∀ (j : Nat), j ≤ 400 → ∀ (H : Heap) (locs : List Loc) (ls : Array Slot), va_P G vwCl [(h0, .inr (7, [.ref h0_0, .ref h0_1])), (h0_0, .inl (cI, 400, .inl fp))] H → va_D A [(h0, .inr (7, [.ref h0_0, .ref h0_1])), (h0_0, .inl (cI, 400, .inl fp))] → va_S A s.heap H locs → lv_has ls 3 [(2, .int (nI j - 1)), (0, .ref h0), (1, .int (nI mm))] → W p l e ({ frames := 1, cells := 0, slots := 0, locals := 60 }) s m ([.ref h0, .int (nI mm)] : List Value).toArray below meth c H locs 0 0 (MQ below (QW (RI (fun _ => True)) G A (fun q g => [(h0, .inr (7, [.ref h0_0, .ref h0_1])), (h0_0, .inl (cI, 400, .inl fp))])) ([.ref h0, .int (nI mm)] : List Value).toArray s 0 0 A) (F0 m 8 ls []) := by
    intro j
    induction j with
    | zero =>
      intro _ H locs ls hP hD hS hl
      have e0 : nI 0 - 1 = -1 := by decide
      rw [e0] at hl
      refine lv_iload_n hx hb dX7_priceIn_8 rfl (lv_at hl 0 rfl) ?_
      refine lv_if_lt (tgt := 35) hx hb dX7_priceIn_9 (by decide) (fun _ => ?_) (fun c => absurd c (by decide))
      refine lv_bipush (v := 100) hx hb dX7_priceIn_35 (by decide) ?_
      exact retI hx hb hr hlocks ⟨_, rfl, trivial⟩ hP hD hS (fun _ => 0) (fun _ _ => 0) [0, 1] (by decide +kernel) rfl dX7_priceIn_37
    | succ j ih =>
      intro hj H locs ls hP hD hS hl
      have e1 : nI (j + 1) - 1 = nI j := nI_pred j
      rw [e1] at hl
      have hjI : (nI j).toInt = (j : Int) := nI_toInt (by omega)
      refine lv_iload_n hx hb dX7_priceIn_8 rfl (lv_at hl 0 rfl) ?_
      refine lv_if_lt (tgt := 35) hx hb dX7_priceIn_9 (by decide) (fun c2 => ?_) (fun c2 => ?_)
      · have f3 : ((nI j).toInt : Int) < 0 := Int32.lt_iff_toInt_lt.mp c2
        exfalso; omega
      · have f4 : ¬ (((nI j).toInt : Int) < 0) := fun h => c2 (Int32.lt_iff_toInt_lt.mpr h)
        refine lv_aload_n hx hb dX7_priceIn_12 rfl (lv_at hl 1 rfl) ?_
        refine va_get (D := G) (ci := 7) (v := .ref h0_0) (C := RX7) (T := TX7) (N := 2) hx hb hts cm_X7_priceIn_0 hown hK hP 0 rfl rfl 0 (by decide) (hts _ (dmem (j := 4) rfl)) (fun _ h9 => h9) rfl dX7_priceIn_13 ?_
        refine lv_iload_n hx hb dX7_priceIn_16 rfl (lv_at hl 0 rfl) ?_
        refine va_iald hx hb hK hP 1 0 rfl rfl (vp_in_iff.mpr (by omega)) dX7_priceIn_17 ?_
        refine lv_topi (fun x5 ex5 => ?_)
        refine lv_iconst (v := (-1)) hx hb dX7_priceIn_18 (by decide) ?_
        refine lv_icmp_eq (tgt := 29) hx hb dX7_priceIn_19 (by decide) (fun c6 => ?_) (fun c6 => ?_)
        · obtain ⟨i7, ei7⟩ : ∃ y : Int32, y = (nI j) + Int32.ofInt (-1) := ⟨_, rfl⟩
          refine lv_iinc (v := i7) (lv' := [(2, .int i7), (0, .ref h0), (1, .int (nI mm))]) hx hb dX7_priceIn_29 hl (k := 0) rfl ei7.symm (by decide) rfl (fun ls hl => ?_)
          refine lv_goto (tgt := 8) hx hb dX7_priceIn_32 (by decide) ?_
          have e2 : i7 = nI j - 1 := by rw [ei7, Int32.sub_eq_add_neg]; rfl
          rw [e2] at hl
          exact ih (by omega) _ _ _ hP hD hS (lv_sub hl [0, 1, 2] rfl)
        · refine lv_aload_n hx hb dX7_priceIn_22 rfl (lv_at hl 1 rfl) ?_
          refine va_get (D := G) (ci := 7) (v := .ref h0_0) (C := RX7) (T := TX7) (N := 2) hx hb hts cm_X7_priceIn_0 hown hK hP 0 rfl rfl 0 (by decide) (hts _ (dmem (j := 4) rfl)) (fun _ h9 => h9) rfl dX7_priceIn_23 ?_
          refine lv_iload_n hx hb dX7_priceIn_26 rfl (lv_at hl 0 rfl) ?_
          refine va_iald hx hb hK hP 1 0 rfl rfl (vp_in_iff.mpr (by omega)) dX7_priceIn_27 ?_
          refine lv_topi (fun x8 ex8 => ?_)
          exact retI hx hb hr hlocks ⟨_, rfl, trivial⟩ hP hD hS (fun _ => 0) (fun _ _ => 0) [0, 1] (by decide +kernel) rfl dX7_priceIn_28
  exact loop8 (mm + 1) (by omega) _ _ _ hP hD hS (by rw [nI_pred]; exact hl)
def d_X2_mark_v1 : List Cond := [Cond.fieldLink RX2 21 "NoRent$Law" "struck" "[I", Cond.methodLink RX2 31 yJ7_fill_53178, Cond.static yJ7_fill_53178, Cond.initialized RJ7, Cond.fieldLink RX2 24 "NoRent$Law" "count" "I"]
def v_X2_mark_v1 : List Cond := Cond.code yX2_mark cX2_mark 6 none :: (d_X2_mark_v1 ++ (wsX20 ++ (v_J7_fill_20 ++ ([] : List Cond))))
theorem cm_X2_mark_v1_0 : ∀ w ∈ wsX20, w ∈ v_X2_mark_v1 := fun _ h => List.mem_cons_of_mem _ (List.mem_append_right _ (List.mem_append_left _ h))
theorem cm_X2_mark_v1_1 : ∀ w ∈ v_J7_fill_20, w ∈ v_X2_mark_v1 := fun _ h => List.mem_cons_of_mem _ (List.mem_append_right _ (List.mem_append_right _ (List.mem_append_left _ h)))
theorem gd_X2_mark_v1 : Gd v_X2_mark_v1 := gd_mk (by decide +kernel) (gd_app gd_X2 (gd_app gd_J7_fill_20 gd_nil))
set_option maxRecDepth 20000 in
theorem gv_X2_mark_v1_31_J7_fill_20 : GoodIn v_X2_mark_v1 (va_wsS RX2 31 yJ7_fill_53178 v_J7_fill_20) := goodIn_app (goodIn_of _ (by decide +kernel)) (gi cm_X2_mark_v1_1 gd_J7_fill_20)
set_option maxHeartbeats 4000000 in
set_option maxRecDepth 100000 in
theorem c_X2_mark_v1 (l : Launch) (G : va_G) (cI cJ cZ cD cR cT : ClassId) (h0_4 : Nat) (nm1 : Nat) (h0_4_1 : Nat) (h0_4_2 : Nat) (h0_4_3 : Nat) (fn4 : Nat → Int32) (sz : Nat) (hn_nm1 : nm1 ≤ 398) : Met l yX2_mark v_X2_mark_v1 ({ frames := 2, cells := 0, slots := 0, locals := 63 }) (va_Pc [.ref h0_4, .int (nI nm1)] (PreW G (tys6 cI cJ cZ cD cR cT) [(h0_4, .inr (2, [.int 0, .ref h0_4_1, .ref h0_4_2, .ref h0_4_3])), (h0_4_3, .inl (cI, 20, .inl fn4))] sz)) (QW RV G (va_A [(h0_4, .inr (2, [.int 0, .ref h0_4_1, .ref h0_4_2, .ref h0_4_3])), (h0_4_3, .inl (cI, 20, .inl fn4))] sz) (fun q g => [(h0_4, .inr (2, [.int 0, .ref h0_4_1, .ref h0_4_2, .ref h0_4_3])), (h0_4_3, .inl (cI, 20, .inl (fillU fn4 0 20)))])) 0 0 (va_A [(h0_4, .inr (2, [.int 0, .ref h0_4_1, .ref h0_4_2, .ref h0_4_3])), (h0_4_3, .inl (cI, 20, .inl fn4))] sz) := by
  refine metW (cc := cX2_mark) (maxL := 6) (ret := none) (by decide) rfl (Nat.le_of_ble_eq_true rfl) ?_
  intro p e s m below meth c A ls hx hb hr hml hown hts hlocks hin hKK hP hD hA hS hl
  have hK := hKK.1
  have hown : s.vm.findClass RX2 = some m.cls := hown
  have hl : lv_has ls 6 [(0, .ref h0_4), (1, .int (nI nm1))] := hl
  have hP : va_P G vwCl [(h0_4, .inr (2, [.int 0, .ref h0_4_1, .ref h0_4_2, .ref h0_4_3])), (h0_4_3, .inl (cI, 20, .inl fn4))] s.heap := hP
  have hD : va_D A [(h0_4, .inr (2, [.int 0, .ref h0_4_1, .ref h0_4_2, .ref h0_4_3])), (h0_4_3, .inl (cI, 20, .inl fn4))] := hD
  have hI_nm1 : (nI nm1).toInt = (nm1 : Int) := nI_toInt (by omega)
  refine lv_aload_n hx hb dX2_mark_0 rfl (lv_at hl 0 rfl) ?_
  refine va_get (D := G) (ci := 2) (v := .ref h0_4_3) (C := RX2) (T := TX2) (N := 4) hx hb hts cm_X2_mark_v1_0 hown hK hP 0 rfl rfl 3 (by decide) (hts _ (dmem (j := 0) rfl)) (fun _ h9 => h9) rfl dX2_mark_1 ?_
  refine lv_iconst (v := 0) hx hb dX2_mark_4 (by decide) ?_
  refine goS (As := [.ref h0_4_3, .int 0]) (rest := []) (wr := [(h0_4, .inr (2, [.int 0, .ref h0_4_1, .ref h0_4_2, .ref h0_4_3]))]) ⟨hx, hb, hml, hown, hts⟩ (c_J7_fill_20 l G cI cJ cZ cD cR cT h0_4_3 0 fn4 _) (va_cwS 2 hts gv_X2_mark_v1_31_J7_fill_20 rfl rfl rfl (by decide +kernel) ⟨Nat.le_of_ble_eq_true rfl, Nat.le_of_ble_eq_true rfl⟩) hKK hP hD hS hA [1] [0] rfl rfl (by decide +kernel) (by decide +kernel) (by decide +kernel) rfl hl.1 rfl (lv_room (Nat.le_of_ble_eq_true rfl)) dX2_mark_5 ⟨Nat.le_of_ble_eq_true rfl, Nat.le_of_ble_eq_true rfl⟩ (fun v2 q1 gq1 H locs hv2 => appW (ws' := [(h0_4, .inr (2, [.int 0, .ref h0_4_1, .ref h0_4_2, .ref h0_4_3])), (h0_4_3, .inl (cI, 20, .inl (fillU fn4 0 20)))]) rfl (fun hP hD hS => ?_))
  obtain rfl := hv2
  refine lv_aload_n hx hb dX2_mark_8 rfl (lv_at hl 0 rfl) ?_
  refine va_get (D := G) (ci := 2) (v := .int 0) (C := RX2) (T := TX2) (N := 4) hx hb hts cm_X2_mark_v1_0 hown hK hP 0 rfl rfl 0 (by decide) (hts _ (dmem (j := 4) rfl)) (fun _ h9 => h9) rfl dX2_mark_9 ?_
  refine lv_iconst (v := 1) hx hb dX2_mark_12 (by decide) ?_
  refine lv_isub hx hb dX2_mark_13 ?_
  refine lv_topi (fun x3 ex3 => ?_)
  obtain rfl : (-1) = x3 := (ex3.trans (by decide)).symm
  refine lv_istore_n (lv' := [(2, .int (-1)), (0, .ref h0_4), (1, .int (nI nm1))]) hx hb dX2_mark_14 rfl hl (by decide) rfl (fun ls hl => ?_)
  refine lv_iload_n hx hb dX2_mark_15 rfl (lv_at hl 0 rfl) ?_
  refine lv_if_lt (tgt := 164) hx hb dX2_mark_16 (by decide) (fun _ => ?_) (fun c => absurd c (by decide))
  exact retV hx hb hr hlocks rfl hP hD hS (fun _ => 0) (fun _ _ => 0) [0, 1] (by decide +kernel) rfl dX2_mark_164
def d_X0_lookAtNow_v1 : List Cond := [Cond.fieldLink RX0 42 "NoRent$County" "law" "LNoRent$Law;", Cond.fieldLink RX0 93 "NoRent$County" "now" "I", Cond.methodLink RX0 113 yX2_mark, Cond.instanceMethod yX2_mark, Cond.selects RX2 yX2_mark yX2_mark, Cond.initialized RX2, Cond.fieldLink RX0 97 "NoRent$County" "choosing" "Z", Cond.fieldLink RX0 35 "NoRent$County" "seasons" "LNoRent$Seasons;", Cond.methodLink RX0 117 yX7_priceIn, Cond.instanceMethod yX7_priceIn, Cond.selects RX7 yX7_priceIn yX7_priceIn, Cond.initialized RX7, Cond.fieldLink RX0 121 "NoRent$County" "priceNow" "I"]
def v_X0_lookAtNow_v1 : List Cond := Cond.code yX0_lookAtNow cX0_lookAtNow 1 none :: (d_X0_lookAtNow_v1 ++ (wsX00 ++ (v_X2_mark_v1 ++ (v_X7_priceIn ++ ([] : List Cond)))))
theorem cm_X0_lookAtNow_v1_0 : ∀ w ∈ wsX00, w ∈ v_X0_lookAtNow_v1 := fun _ h => List.mem_cons_of_mem _ (List.mem_append_right _ (List.mem_append_left _ h))
theorem cm_X0_lookAtNow_v1_1 : ∀ w ∈ v_X2_mark_v1, w ∈ v_X0_lookAtNow_v1 := fun _ h => List.mem_cons_of_mem _ (List.mem_append_right _ (List.mem_append_right _ (List.mem_append_left _ h)))
theorem cm_X0_lookAtNow_v1_2 : ∀ w ∈ v_X7_priceIn, w ∈ v_X0_lookAtNow_v1 := fun _ h => List.mem_cons_of_mem _ (List.mem_append_right _ (List.mem_append_right _ (List.mem_append_right _ (List.mem_append_left _ h))))
theorem gd_X0_lookAtNow_v1 : Gd v_X0_lookAtNow_v1 := gd_mk (by decide +kernel) (gd_app gd_X0 (gd_app gd_X2_mark_v1 (gd_app gd_X7_priceIn gd_nil)))
set_option maxRecDepth 20000 in
theorem gv_X0_lookAtNow_v1_113_X2_mark_v1 : GoodIn v_X0_lookAtNow_v1 (wsV RX0 113 RX2 yX2_mark v_X2_mark_v1) := goodIn_app (goodIn_of _ (by decide +kernel)) (gi cm_X0_lookAtNow_v1_1 gd_X2_mark_v1)
set_option maxRecDepth 20000 in
theorem gv_X0_lookAtNow_v1_117_X7_priceIn : GoodIn v_X0_lookAtNow_v1 (wsV RX0 117 RX7 yX7_priceIn v_X7_priceIn) := goodIn_app (goodIn_of _ (by decide +kernel)) (gi cm_X0_lookAtNow_v1_2 gd_X7_priceIn)
set_option maxHeartbeats 4000000 in
set_option maxRecDepth 100000 in
theorem c_X0_lookAtNow_v1 (l : Launch) (G : va_G) (cI cJ cZ cD cR cT : ClassId) (h0 : Nat) (h0_0 : Nat) (h0_1 : Nat) (h0_2 : Nat) (h0_3 : Nat) (h0_4 : Nat) (h0_5 : Nat) (nm1 : Nat) (h0_8 : Nat) (n1 : Int32) (h0_15 : Nat) (h0_16 : Nat) (h0_3_0 : Nat) (h0_3_1 : Nat) (fn3 : Nat → Int32) (h0_4_1 : Nat) (h0_4_2 : Nat) (h0_4_3 : Nat) (fn4 : Nat → Int32) (sz : Nat) (hn_nm1 : nm1 ≤ 398) : Met l yX0_lookAtNow v_X0_lookAtNow_v1 ({ frames := 3, cells := 0, slots := 0, locals := 88 }) (va_Pc [.ref h0] (PreW G (tys6 cI cJ cZ cD cR cT) [(h0, .inr (0, [.ref h0_0, .ref h0_1, .ref h0_2, .ref h0_3, .ref h0_4, .ref h0_5, .int (nI nm1), .int 0, .ref h0_8, .int 0, .int 0, .int 0, .int 0, .long 0, .int n1, .ref h0_15, .ref h0_16])), (h0_3, .inr (7, [.ref h0_3_0, .ref h0_3_1])), (h0_3_0, .inl (cI, 400, .inl fn3)), (h0_4, .inr (2, [.int 0, .ref h0_4_1, .ref h0_4_2, .ref h0_4_3])), (h0_4_3, .inl (cI, 20, .inl fn4))] sz)) (QW RV G (va_A [(h0, .inr (0, [.ref h0_0, .ref h0_1, .ref h0_2, .ref h0_3, .ref h0_4, .ref h0_5, .int (nI nm1), .int 0, .ref h0_8, .int 0, .int 0, .int 0, .int 0, .long 0, .int n1, .ref h0_15, .ref h0_16])), (h0_3, .inr (7, [.ref h0_3_0, .ref h0_3_1])), (h0_3_0, .inl (cI, 400, .inl fn3)), (h0_4, .inr (2, [.int 0, .ref h0_4_1, .ref h0_4_2, .ref h0_4_3])), (h0_4_3, .inl (cI, 20, .inl fn4))] sz) (fun q g => [(h0, .inr (0, [.ref h0_0, .ref h0_1, .ref h0_2, .ref h0_3, .ref h0_4, .ref h0_5, .int (nI nm1), .int 0, .ref h0_8, .int 0, .int 0, .int 0, .int 0, .long 0, .int (g 0 0), .ref h0_15, .ref h0_16])), (h0_3, .inr (7, [.ref h0_3_0, .ref h0_3_1])), (h0_3_0, .inl (cI, 400, .inl fn3)), (h0_4, .inr (2, [.int 0, .ref h0_4_1, .ref h0_4_2, .ref h0_4_3])), (h0_4_3, .inl (cI, 20, .inl (fillU fn4 0 20)))])) 0 0 (va_A [(h0, .inr (0, [.ref h0_0, .ref h0_1, .ref h0_2, .ref h0_3, .ref h0_4, .ref h0_5, .int (nI nm1), .int 0, .ref h0_8, .int 0, .int 0, .int 0, .int 0, .long 0, .int n1, .ref h0_15, .ref h0_16])), (h0_3, .inr (7, [.ref h0_3_0, .ref h0_3_1])), (h0_3_0, .inl (cI, 400, .inl fn3)), (h0_4, .inr (2, [.int 0, .ref h0_4_1, .ref h0_4_2, .ref h0_4_3])), (h0_4_3, .inl (cI, 20, .inl fn4))] sz) := by
  refine metW (cc := cX0_lookAtNow) (maxL := 1) (ret := none) (by decide) rfl (Nat.le_of_ble_eq_true rfl) ?_
  intro p e s m below meth c A ls hx hb hr hml hown hts hlocks hin hKK hP hD hA hS hl
  have hK := hKK.1
  have hown : s.vm.findClass RX0 = some m.cls := hown
  have hl : lv_has ls 1 [(0, .ref h0)] := hl
  have hP : va_P G vwCl [(h0, .inr (0, [.ref h0_0, .ref h0_1, .ref h0_2, .ref h0_3, .ref h0_4, .ref h0_5, .int (nI nm1), .int 0, .ref h0_8, .int 0, .int 0, .int 0, .int 0, .long 0, .int n1, .ref h0_15, .ref h0_16])), (h0_3, .inr (7, [.ref h0_3_0, .ref h0_3_1])), (h0_3_0, .inl (cI, 400, .inl fn3)), (h0_4, .inr (2, [.int 0, .ref h0_4_1, .ref h0_4_2, .ref h0_4_3])), (h0_4_3, .inl (cI, 20, .inl fn4))] s.heap := hP
  have hD : va_D A [(h0, .inr (0, [.ref h0_0, .ref h0_1, .ref h0_2, .ref h0_3, .ref h0_4, .ref h0_5, .int (nI nm1), .int 0, .ref h0_8, .int 0, .int 0, .int 0, .int 0, .long 0, .int n1, .ref h0_15, .ref h0_16])), (h0_3, .inr (7, [.ref h0_3_0, .ref h0_3_1])), (h0_3_0, .inl (cI, 400, .inl fn3)), (h0_4, .inr (2, [.int 0, .ref h0_4_1, .ref h0_4_2, .ref h0_4_3])), (h0_4_3, .inl (cI, 20, .inl fn4))] := hD
  have hI_nm1 : (nI nm1).toInt = (nm1 : Int) := nI_toInt (by omega)
  refine lv_aload_n hx hb dX0_lookAtNow_0 rfl (lv_at hl 0 rfl) ?_
  refine va_get (D := G) (ci := 0) (v := .ref h0_4) (C := RX0) (T := TX0) (N := 17) hx hb hts cm_X0_lookAtNow_v1_0 hown hK hP 0 rfl rfl 4 (by decide) (hts _ (dmem (j := 0) rfl)) (fun _ h9 => h9) rfl dX0_lookAtNow_1 ?_
  refine lv_aload_n hx hb dX0_lookAtNow_4 rfl (lv_at hl 0 rfl) ?_
  refine va_get (D := G) (ci := 0) (v := .int (nI nm1)) (C := RX0) (T := TX0) (N := 17) hx hb hts cm_X0_lookAtNow_v1_0 hown hK hP 0 rfl rfl 6 (by decide) (hts _ (dmem (j := 1) rfl)) (fun _ h9 => h9) rfl dX0_lookAtNow_5 ?_
  refine goV (As := [.int (nI nm1)]) (rest := []) (wr := [(h0, .inr (0, [.ref h0_0, .ref h0_1, .ref h0_2, .ref h0_3, .ref h0_4, .ref h0_5, .int (nI nm1), .int 0, .ref h0_8, .int 0, .int 0, .int 0, .int 0, .long 0, .int n1, .ref h0_15, .ref h0_16])), (h0_3, .inr (7, [.ref h0_3_0, .ref h0_3_1])), (h0_3_0, .inl (cI, 400, .inl fn3))]) ⟨hx, hb, hml, hown, hts⟩ (c_X2_mark_v1 l G cI cJ cZ cD cR cT h0_4 nm1 h0_4_1 h0_4_2 h0_4_3 fn4 _ (by omega)) (cwV 1 hts gv_X0_lookAtNow_v1_113_X2_mark_v1 rfl rfl rfl (by decide +kernel) ⟨Nat.le_of_ble_eq_true rfl, Nat.le_of_ble_eq_true rfl⟩) 3 rfl rfl rfl hKK hP hD hS hA [3, 4] [0, 1, 2] rfl rfl (by decide +kernel) (by decide +kernel) (by decide +kernel) rfl hl.1 rfl (lv_room (Nat.le_of_ble_eq_true rfl)) dX0_lookAtNow_8 ⟨Nat.le_of_ble_eq_true rfl, Nat.le_of_ble_eq_true rfl⟩ (fun v2 q1 gq1 H locs hv2 => appW (ws' := [(h0, .inr (0, [.ref h0_0, .ref h0_1, .ref h0_2, .ref h0_3, .ref h0_4, .ref h0_5, .int (nI nm1), .int 0, .ref h0_8, .int 0, .int 0, .int 0, .int 0, .long 0, .int n1, .ref h0_15, .ref h0_16])), (h0_3, .inr (7, [.ref h0_3_0, .ref h0_3_1])), (h0_3_0, .inl (cI, 400, .inl fn3)), (h0_4, .inr (2, [.int 0, .ref h0_4_1, .ref h0_4_2, .ref h0_4_3])), (h0_4_3, .inl (cI, 20, .inl (fillU fn4 0 20)))]) rfl (fun hP hD hS => ?_))
  obtain rfl := hv2
  refine lv_aload_n hx hb dX0_lookAtNow_11 rfl (lv_at hl 0 rfl) ?_
  refine lv_aload_n hx hb dX0_lookAtNow_12 rfl (lv_at hl 0 rfl) ?_
  refine va_get (D := G) (ci := 0) (v := .int 0) (C := RX0) (T := TX0) (N := 17) hx hb hts cm_X0_lookAtNow_v1_0 hown hK hP 0 rfl rfl 9 (by decide) (hts _ (dmem (j := 6) rfl)) (fun _ h9 => h9) rfl dX0_lookAtNow_13 ?_
  refine lv_if_eq (tgt := 26) hx hb dX0_lookAtNow_16 (by decide) (fun _ => ?_) (fun c => absurd c (by decide))
  refine lv_aload_n hx hb dX0_lookAtNow_26 rfl (lv_at hl 0 rfl) ?_
  refine va_get (D := G) (ci := 0) (v := .ref h0_3) (C := RX0) (T := TX0) (N := 17) hx hb hts cm_X0_lookAtNow_v1_0 hown hK hP 0 rfl rfl 3 (by decide) (hts _ (dmem (j := 7) rfl)) (fun _ h9 => h9) rfl dX0_lookAtNow_27 ?_
  refine lv_aload_n hx hb dX0_lookAtNow_30 rfl (lv_at hl 0 rfl) ?_
  refine va_get (D := G) (ci := 0) (v := .int (nI nm1)) (C := RX0) (T := TX0) (N := 17) hx hb hts cm_X0_lookAtNow_v1_0 hown hK hP 0 rfl rfl 6 (by decide) (hts _ (dmem (j := 1) rfl)) (fun _ h9 => h9) rfl dX0_lookAtNow_31 ?_
  refine goV (As := [.int (nI nm1)]) (rest := [.ref h0]) (wr := [(h0, .inr (0, [.ref h0_0, .ref h0_1, .ref h0_2, .ref h0_3, .ref h0_4, .ref h0_5, .int (nI nm1), .int 0, .ref h0_8, .int 0, .int 0, .int 0, .int 0, .long 0, .int n1, .ref h0_15, .ref h0_16])), (h0_4, .inr (2, [.int 0, .ref h0_4_1, .ref h0_4_2, .ref h0_4_3])), (h0_4_3, .inl (cI, 20, .inl (fillU fn4 0 20)))]) ⟨hx, hb, hml, hown, hts⟩ (c_X7_priceIn l G cI cJ cZ cD cR cT h0_3 nm1 h0_3_0 h0_3_1 fn3 _ (by omega)) (cwV 1 hts gv_X0_lookAtNow_v1_117_X7_priceIn rfl rfl rfl (by decide +kernel) ⟨Nat.le_of_ble_eq_true rfl, Nat.le_of_ble_eq_true rfl⟩) 1 rfl rfl rfl hKK hP hD hS hA [1, 2] [0, 3, 4] rfl rfl (by decide +kernel) (by decide +kernel) (by decide +kernel) rfl hl.1 rfl (lv_room (Nat.le_of_ble_eq_true rfl)) dX0_lookAtNow_34 ⟨Nat.le_of_ble_eq_true rfl, Nat.le_of_ble_eq_true rfl⟩ (fun v4 q3 gq3 H locs hv4 => appW (ws' := [(h0, .inr (0, [.ref h0_0, .ref h0_1, .ref h0_2, .ref h0_3, .ref h0_4, .ref h0_5, .int (nI nm1), .int 0, .ref h0_8, .int 0, .int 0, .int 0, .int 0, .long 0, .int n1, .ref h0_15, .ref h0_16])), (h0_4, .inr (2, [.int 0, .ref h0_4_1, .ref h0_4_2, .ref h0_4_3])), (h0_4_3, .inl (cI, 20, .inl (fillU fn4 0 20))), (h0_3, .inr (7, [.ref h0_3_0, .ref h0_3_1])), (h0_3_0, .inl (cI, 400, .inl fn3))]) rfl (fun hP hD hS => ?_))
  obtain ⟨r5, rfl, -⟩ := hv4
  refine va_put (D := G) (ci := 0) (v := .int r5) (ty := .int) (C := RX0) (T := TX0) (N := 17) hx hb hts cm_X0_lookAtNow_v1_0 tyX0 tyX0_ok nmX0 hown hK hP hD hS 0 rfl rfl 14 (by decide) (hts _ (dmem (j := 12) rfl)) (fun _ h9 => h9) rfl (by decide +kernel) rfl rfl (Nat.le_of_ble_eq_true rfl) dX0_lookAtNow_37 (fun H locs => setW (ws' := [(h0, .inr (0, [.ref h0_0, .ref h0_1, .ref h0_2, .ref h0_3, .ref h0_4, .ref h0_5, .int (nI nm1), .int 0, .ref h0_8, .int 0, .int 0, .int 0, .int 0, .long 0, .int r5, .ref h0_15, .ref h0_16])), (h0_4, .inr (2, [.int 0, .ref h0_4_1, .ref h0_4_2, .ref h0_4_3])), (h0_4_3, .inl (cI, 20, .inl (fillU fn4 0 20))), (h0_3, .inr (7, [.ref h0_3_0, .ref h0_3_1])), (h0_3_0, .inl (cI, 400, .inl fn3))]) rfl (fun hP hD hS => ?_))
  exact retV hx hb hr hlocks rfl hP hD hS (fun _ => 0) (fun k => match k with | 0 => (fun _ => r5) | _ => fun _ => 0) [0, 3, 4, 1, 2] (by decide +kernel) rfl dX0_lookAtNow_40
def d_X0_reap_v1 : List Cond := [Cond.fieldLink RX0 97 "NoRent$County" "choosing" "Z", Cond.fieldLink RX0 35 "NoRent$County" "seasons" "LNoRent$Seasons;", Cond.fieldLink RX0 167 "NoRent$Seasons" "rows" "[LNoRent$Row;", Cond.fieldLink RX0 93 "NoRent$County" "now" "I"]
def v_X0_reap_v1 : List Cond := Cond.code yX0_reap cX0_reap 5 none :: (d_X0_reap_v1 ++ (wsX00 ++ (wsX70 ++ ([] : List Cond))))
theorem cm_X0_reap_v1_0 : ∀ w ∈ wsX00, w ∈ v_X0_reap_v1 := fun _ h => List.mem_cons_of_mem _ (List.mem_append_right _ (List.mem_append_left _ h))
theorem cm_X0_reap_v1_1 : ∀ w ∈ wsX70, w ∈ v_X0_reap_v1 := fun _ h => List.mem_cons_of_mem _ (List.mem_append_right _ (List.mem_append_right _ (List.mem_append_left _ h)))
theorem gd_X0_reap_v1 : Gd v_X0_reap_v1 := gd_mk (by decide +kernel) (gd_app gd_X0 (gd_app gd_X7 gd_nil))
set_option maxHeartbeats 4000000 in
set_option maxRecDepth 100000 in
theorem c_X0_reap_v1 (l : Launch) (G : va_G) (cI cJ cZ cD cR cT : ClassId) (h0 : Nat) (h0_3_1 : Nat) (h0_0 : Nat) (h0_1 : Nat) (h0_2 : Nat) (h0_3 : Nat) (h0_4 : Nat) (h0_5 : Nat) (nm1 : Nat) (h0_8 : Nat) (n2 : Int32) (h0_15 : Nat) (h0_16 : Nat) (h0_3_0 : Nat) (sz : Nat) (hn_nm1 : nm1 ≤ 398) : Met l yX0_reap v_X0_reap_v1 ({ frames := 1, cells := 0, slots := 0, locals := 40 }) (va_Pc [.ref h0] (PreW G (tys6 cI cJ cZ cD cR cT) [(h0_3_1, .inl (cR, 400, .inr (.inr (.inr (.inr (fun _ => none)))))), (h0, .inr (0, [.ref h0_0, .ref h0_1, .ref h0_2, .ref h0_3, .ref h0_4, .ref h0_5, .int (nI nm1), .int 0, .ref h0_8, .int 0, .int 0, .int 0, .int 0, .long 0, .int n2, .ref h0_15, .ref h0_16])), (h0_3, .inr (7, [.ref h0_3_0, .ref h0_3_1]))] sz)) (QW RV G (va_A [(h0_3_1, .inl (cR, 400, .inr (.inr (.inr (.inr (fun _ => none)))))), (h0, .inr (0, [.ref h0_0, .ref h0_1, .ref h0_2, .ref h0_3, .ref h0_4, .ref h0_5, .int (nI nm1), .int 0, .ref h0_8, .int 0, .int 0, .int 0, .int 0, .long 0, .int n2, .ref h0_15, .ref h0_16])), (h0_3, .inr (7, [.ref h0_3_0, .ref h0_3_1]))] sz) (fun q g => [(h0_3_1, .inl (cR, 400, .inr (.inr (.inr (.inr (fun _ => none)))))), (h0, .inr (0, [.ref h0_0, .ref h0_1, .ref h0_2, .ref h0_3, .ref h0_4, .ref h0_5, .int (nI nm1), .int 0, .ref h0_8, .int 0, .int 0, .int 0, .int 0, .long 0, .int n2, .ref h0_15, .ref h0_16])), (h0_3, .inr (7, [.ref h0_3_0, .ref h0_3_1]))])) 0 0 (va_A [(h0_3_1, .inl (cR, 400, .inr (.inr (.inr (.inr (fun _ => none)))))), (h0, .inr (0, [.ref h0_0, .ref h0_1, .ref h0_2, .ref h0_3, .ref h0_4, .ref h0_5, .int (nI nm1), .int 0, .ref h0_8, .int 0, .int 0, .int 0, .int 0, .long 0, .int n2, .ref h0_15, .ref h0_16])), (h0_3, .inr (7, [.ref h0_3_0, .ref h0_3_1]))] sz) := by
  refine metW (cc := cX0_reap) (maxL := 5) (ret := none) (by decide) rfl (Nat.le_of_ble_eq_true rfl) ?_
  intro p e s m below meth c A ls hx hb hr hml hown hts hlocks hin hKK hP hD hA hS hl
  have hK := hKK.1
  have hown : s.vm.findClass RX0 = some m.cls := hown
  have hl : lv_has ls 5 [(0, .ref h0)] := hl
  have hP : va_P G vwCl [(h0_3_1, .inl (cR, 400, .inr (.inr (.inr (.inr (fun _ => none)))))), (h0, .inr (0, [.ref h0_0, .ref h0_1, .ref h0_2, .ref h0_3, .ref h0_4, .ref h0_5, .int (nI nm1), .int 0, .ref h0_8, .int 0, .int 0, .int 0, .int 0, .long 0, .int n2, .ref h0_15, .ref h0_16])), (h0_3, .inr (7, [.ref h0_3_0, .ref h0_3_1]))] s.heap := hP
  have hD : va_D A [(h0_3_1, .inl (cR, 400, .inr (.inr (.inr (.inr (fun _ => none)))))), (h0, .inr (0, [.ref h0_0, .ref h0_1, .ref h0_2, .ref h0_3, .ref h0_4, .ref h0_5, .int (nI nm1), .int 0, .ref h0_8, .int 0, .int 0, .int 0, .int 0, .long 0, .int n2, .ref h0_15, .ref h0_16])), (h0_3, .inr (7, [.ref h0_3_0, .ref h0_3_1]))] := hD
  have hI_nm1 : (nI nm1).toInt = (nm1 : Int) := nI_toInt (by omega)
  refine lv_aload_n hx hb dX0_reap_0 rfl (lv_at hl 0 rfl) ?_
  refine va_get (D := G) (ci := 0) (v := .int 0) (C := RX0) (T := TX0) (N := 17) hx hb hts cm_X0_reap_v1_0 hown hK hP 1 rfl rfl 9 (by decide) (hts _ (dmem (j := 0) rfl)) (fun _ h9 => h9) rfl dX0_reap_1 ?_
  refine lv_if_eq (tgt := 25) hx hb dX0_reap_4 (by decide) (fun _ => ?_) (fun c => absurd c (by decide))
  refine lv_aload_n hx hb dX0_reap_25 rfl (lv_at hl 0 rfl) ?_
  refine va_get (D := G) (ci := 0) (v := .ref h0_3) (C := RX0) (T := TX0) (N := 17) hx hb hts cm_X0_reap_v1_0 hown hK hP 1 rfl rfl 3 (by decide) (hts _ (dmem (j := 1) rfl)) (fun _ h9 => h9) rfl dX0_reap_26 ?_
  refine va_get (D := G) (ci := 7) (v := .ref h0_3_1) (C := RX7) (T := TX7) (N := 2) hx hb hts cm_X0_reap_v1_1 hown hK hP 2 rfl rfl 1 (by decide) (hts _ (dmem (j := 2) rfl)) (fun _ h9 => h9) rfl dX0_reap_29 ?_
  refine lv_aload_n hx hb dX0_reap_32 rfl (lv_at hl 0 rfl) ?_
  refine va_get (D := G) (ci := 0) (v := .int (nI nm1)) (C := RX0) (T := TX0) (N := 17) hx hb hts cm_X0_reap_v1_0 hown hK hP 1 rfl rfl 6 (by decide) (hts _ (dmem (j := 3) rfl)) (fun _ h9 => h9) rfl dX0_reap_33 ?_
  refine va_aldq hx hb hK hP 0 4 rfl rfl (vp_in_iff.mpr (by omega)) dX0_reap_36 ?_
  refine (?_ : W _ _ _ _ _ _ _ _ _ _ _ _ _ _ _ (F0 m 37 ls (.null :: [])))
  refine lv_ifnullN (tgt := 44) hx hb dX0_reap_37 (by decide) ?_
  refine lv_iconst (v := 0) hx hb dX0_reap_44 (by decide) ?_
  refine lv_istore_n (lv' := [(1, .int 0), (0, .ref h0)]) hx hb dX0_reap_45 rfl hl (by decide) rfl (fun ls hl => ?_)
  refine lv_iconst (v := 0) hx hb dX0_reap_46 (by decide) ?_
  refine lv_istore_n (lv' := [(2, .int 0), (1, .int 0), (0, .ref h0)]) hx hb dX0_reap_47 rfl hl (by decide) rfl (fun ls hl => ?_)
  refine lv_iload_n hx hb dX0_reap_48 rfl (lv_at hl 1 rfl) ?_
  refine lv_if_eq (tgt := 145) hx hb dX0_reap_49 (by decide) (fun _ => ?_) (fun c => absurd c (by decide))
  exact retV hx hb hr hlocks rfl hP hD hS (fun _ => 0) (fun _ _ => 0) [0, 1, 2] (by decide +kernel) rfl dX0_reap_145
def d_X0_payDraws_v1 : List Cond := [Cond.fieldLink RX0 12 "NoRent$County" "people" "LNoRent$People;", Cond.fieldLink RX0 263 "NoRent$People" "count" "I"]
def v_X0_payDraws_v1 : List Cond := Cond.code yX0_payDraws cX0_payDraws 4 none :: (d_X0_payDraws_v1 ++ (wsX00 ++ (wsX40 ++ ([] : List Cond))))
theorem cm_X0_payDraws_v1_0 : ∀ w ∈ wsX00, w ∈ v_X0_payDraws_v1 := fun _ h => List.mem_cons_of_mem _ (List.mem_append_right _ (List.mem_append_left _ h))
theorem cm_X0_payDraws_v1_1 : ∀ w ∈ wsX40, w ∈ v_X0_payDraws_v1 := fun _ h => List.mem_cons_of_mem _ (List.mem_append_right _ (List.mem_append_right _ (List.mem_append_left _ h)))
theorem gd_X0_payDraws_v1 : Gd v_X0_payDraws_v1 := gd_mk (by decide +kernel) (gd_app gd_X0 (gd_app gd_X4 gd_nil))
set_option maxHeartbeats 4000000 in
set_option maxRecDepth 100000 in
theorem c_X0_payDraws_v1 (l : Launch) (G : va_G) (cI cJ cZ cD cR cT : ClassId) (h0 : Nat) (h0_0 : Nat) (h0_0_1 : Nat) (h0_0_2 : Nat) (h0_0_3 : Nat) (h0_0_4 : Nat) (h0_0_5 : Nat) (h0_0_6 : Nat) (h0_0_7 : Nat) (h0_0_8 : Nat) (h0_0_9 : Nat) (h0_1 : Nat) (h0_2 : Nat) (h0_3 : Nat) (h0_4 : Nat) (h0_5 : Nat) (nm1 : Nat) (h0_8 : Nat) (n4 : Int32) (h0_15 : Nat) (h0_16 : Nat) (sz : Nat) (hn_nm1 : nm1 ≤ 0) : Met l yX0_payDraws v_X0_payDraws_v1 ({ frames := 1, cells := 0, slots := 0, locals := 40 }) (va_Pc [.ref h0] (PreW G (tys6 cI cJ cZ cD cR cT) [(h0_0, .inr (4, [.int 0, .ref h0_0_1, .ref h0_0_2, .ref h0_0_3, .ref h0_0_4, .ref h0_0_5, .ref h0_0_6, .ref h0_0_7, .ref h0_0_8, .ref h0_0_9])), (h0, .inr (0, [.ref h0_0, .ref h0_1, .ref h0_2, .ref h0_3, .ref h0_4, .ref h0_5, .int (nI nm1), .int 0, .ref h0_8, .int 0, .int 0, .int 0, .int 0, .long 0, .int n4, .ref h0_15, .ref h0_16]))] sz)) (QW RV G (va_A [(h0_0, .inr (4, [.int 0, .ref h0_0_1, .ref h0_0_2, .ref h0_0_3, .ref h0_0_4, .ref h0_0_5, .ref h0_0_6, .ref h0_0_7, .ref h0_0_8, .ref h0_0_9])), (h0, .inr (0, [.ref h0_0, .ref h0_1, .ref h0_2, .ref h0_3, .ref h0_4, .ref h0_5, .int (nI nm1), .int 0, .ref h0_8, .int 0, .int 0, .int 0, .int 0, .long 0, .int n4, .ref h0_15, .ref h0_16]))] sz) (fun q g => [(h0_0, .inr (4, [.int 0, .ref h0_0_1, .ref h0_0_2, .ref h0_0_3, .ref h0_0_4, .ref h0_0_5, .ref h0_0_6, .ref h0_0_7, .ref h0_0_8, .ref h0_0_9])), (h0, .inr (0, [.ref h0_0, .ref h0_1, .ref h0_2, .ref h0_3, .ref h0_4, .ref h0_5, .int (nI nm1), .int 0, .ref h0_8, .int 0, .int 0, .int 0, .int 0, .long 0, .int n4, .ref h0_15, .ref h0_16]))])) 0 0 (va_A [(h0_0, .inr (4, [.int 0, .ref h0_0_1, .ref h0_0_2, .ref h0_0_3, .ref h0_0_4, .ref h0_0_5, .ref h0_0_6, .ref h0_0_7, .ref h0_0_8, .ref h0_0_9])), (h0, .inr (0, [.ref h0_0, .ref h0_1, .ref h0_2, .ref h0_3, .ref h0_4, .ref h0_5, .int (nI nm1), .int 0, .ref h0_8, .int 0, .int 0, .int 0, .int 0, .long 0, .int n4, .ref h0_15, .ref h0_16]))] sz) := by
  refine metW (cc := cX0_payDraws) (maxL := 4) (ret := none) (by decide) rfl (Nat.le_of_ble_eq_true rfl) ?_
  intro p e s m below meth c A ls hx hb hr hml hown hts hlocks hin hKK hP hD hA hS hl
  have hK := hKK.1
  have hown : s.vm.findClass RX0 = some m.cls := hown
  have hl : lv_has ls 4 [(0, .ref h0)] := hl
  have hP : va_P G vwCl [(h0_0, .inr (4, [.int 0, .ref h0_0_1, .ref h0_0_2, .ref h0_0_3, .ref h0_0_4, .ref h0_0_5, .ref h0_0_6, .ref h0_0_7, .ref h0_0_8, .ref h0_0_9])), (h0, .inr (0, [.ref h0_0, .ref h0_1, .ref h0_2, .ref h0_3, .ref h0_4, .ref h0_5, .int (nI nm1), .int 0, .ref h0_8, .int 0, .int 0, .int 0, .int 0, .long 0, .int n4, .ref h0_15, .ref h0_16]))] s.heap := hP
  have hD : va_D A [(h0_0, .inr (4, [.int 0, .ref h0_0_1, .ref h0_0_2, .ref h0_0_3, .ref h0_0_4, .ref h0_0_5, .ref h0_0_6, .ref h0_0_7, .ref h0_0_8, .ref h0_0_9])), (h0, .inr (0, [.ref h0_0, .ref h0_1, .ref h0_2, .ref h0_3, .ref h0_4, .ref h0_5, .int (nI nm1), .int 0, .ref h0_8, .int 0, .int 0, .int 0, .int 0, .long 0, .int n4, .ref h0_15, .ref h0_16]))] := hD
  have hI_nm1 : (nI nm1).toInt = (nm1 : Int) := nI_toInt (by omega)
  refine lv_iconst (v := 0) hx hb dX0_payDraws_0 (by decide) ?_
  refine lv_istore_n (lv' := [(1, .int 0), (0, .ref h0)]) hx hb dX0_payDraws_1 rfl hl (by decide) rfl (fun ls hl => ?_)
  refine lv_iload_n hx hb dX0_payDraws_2 rfl (lv_at hl 0 rfl) ?_
  refine lv_aload_n hx hb dX0_payDraws_3 rfl (lv_at hl 1 rfl) ?_
  refine va_get (D := G) (ci := 0) (v := .ref h0_0) (C := RX0) (T := TX0) (N := 17) hx hb hts cm_X0_payDraws_v1_0 hown hK hP 1 rfl rfl 0 (by decide) (hts _ (dmem (j := 0) rfl)) (fun _ h9 => h9) rfl dX0_payDraws_4 ?_
  refine va_get (D := G) (ci := 4) (v := .int 0) (C := RX4) (T := TX4) (N := 10) hx hb hts cm_X0_payDraws_v1_1 hown hK hP 0 rfl rfl 0 (by decide) (hts _ (dmem (j := 1) rfl)) (fun _ h9 => h9) rfl dX0_payDraws_7 ?_
  refine lv_icmp_ge (tgt := 97) hx hb dX0_payDraws_10 (by decide) (fun _ => ?_) (fun c => absurd c (by decide))
  exact retV hx hb hr hlocks rfl hP hD hS (fun _ => 0) (fun _ _ => 0) [0, 1] (by decide +kernel) rfl dX0_payDraws_97
def d_X0_renewBans_v1 : List Cond := [Cond.fieldLink RX0 12 "NoRent$County" "people" "LNoRent$People;", Cond.fieldLink RX0 263 "NoRent$People" "count" "I", Cond.fieldLink RX0 274 "NoRent$People" "bannedNext" "[I", Cond.fieldLink RX0 277 "NoRent$People" "banned" "[I", Cond.methodLink RX0 280 arraycopyName, Cond.native arraycopyName, Cond.static arraycopyName, Cond.initialized "java/lang/System"]
def v_X0_renewBans_v1 : List Cond := Cond.code yX0_renewBans cX0_renewBans 2 none :: (d_X0_renewBans_v1 ++ (wsX00 ++ (wsX40 ++ ([] : List Cond))))
theorem cm_X0_renewBans_v1_0 : ∀ w ∈ wsX00, w ∈ v_X0_renewBans_v1 := fun _ h => List.mem_cons_of_mem _ (List.mem_append_right _ (List.mem_append_left _ h))
theorem cm_X0_renewBans_v1_1 : ∀ w ∈ wsX40, w ∈ v_X0_renewBans_v1 := fun _ h => List.mem_cons_of_mem _ (List.mem_append_right _ (List.mem_append_right _ (List.mem_append_left _ h)))
theorem gd_X0_renewBans_v1 : Gd v_X0_renewBans_v1 := gd_mk (by decide +kernel) (gd_app gd_X0 (gd_app gd_X4 gd_nil))
set_option maxHeartbeats 4000000 in
set_option maxRecDepth 100000 in
theorem c_X0_renewBans_v1 (l : Launch) (G : va_G) (cI cJ cZ cD cR cT : ClassId) (h0 : Nat) (h0_0_8 : Nat) (fn1 : Nat → Int32) (h0_0_9 : Nat) (h0_0 : Nat) (h0_0_1 : Nat) (h0_0_2 : Nat) (h0_0_3 : Nat) (h0_0_4 : Nat) (h0_0_5 : Nat) (h0_0_6 : Nat) (h0_0_7 : Nat) (h0_1 : Nat) (h0_2 : Nat) (h0_3 : Nat) (h0_4 : Nat) (h0_5 : Nat) (nm1 : Nat) (h0_8 : Nat) (n4 : Int32) (h0_15 : Nat) (h0_16 : Nat) (sz : Nat) (hn_nm1 : nm1 ≤ 0) : Met l yX0_renewBans v_X0_renewBans_v1 ({ frames := 1, cells := 0, slots := 0, locals := 60 }) (va_Pc [.ref h0] (PreW G (tys6 cI cJ cZ cD cR cT) [(h0_0_8, .inl (cI, 40, .inl fn1)), (h0_0_9, .inl (cI, 40, .inl (fun _ => 0))), (h0_0, .inr (4, [.int 0, .ref h0_0_1, .ref h0_0_2, .ref h0_0_3, .ref h0_0_4, .ref h0_0_5, .ref h0_0_6, .ref h0_0_7, .ref h0_0_8, .ref h0_0_9])), (h0, .inr (0, [.ref h0_0, .ref h0_1, .ref h0_2, .ref h0_3, .ref h0_4, .ref h0_5, .int (nI nm1), .int 0, .ref h0_8, .int 0, .int 0, .int 0, .int 0, .long 0, .int n4, .ref h0_15, .ref h0_16]))] sz)) (QW RV G (va_A [(h0_0_8, .inl (cI, 40, .inl fn1)), (h0_0_9, .inl (cI, 40, .inl (fun _ => 0))), (h0_0, .inr (4, [.int 0, .ref h0_0_1, .ref h0_0_2, .ref h0_0_3, .ref h0_0_4, .ref h0_0_5, .ref h0_0_6, .ref h0_0_7, .ref h0_0_8, .ref h0_0_9])), (h0, .inr (0, [.ref h0_0, .ref h0_1, .ref h0_2, .ref h0_3, .ref h0_4, .ref h0_5, .int (nI nm1), .int 0, .ref h0_8, .int 0, .int 0, .int 0, .int 0, .long 0, .int n4, .ref h0_15, .ref h0_16]))] sz) (fun q g => [(h0_0_8, .inl (cI, 40, .inl (g 0))), (h0_0_9, .inl (cI, 40, .inl (fun _ => 0))), (h0_0, .inr (4, [.int 0, .ref h0_0_1, .ref h0_0_2, .ref h0_0_3, .ref h0_0_4, .ref h0_0_5, .ref h0_0_6, .ref h0_0_7, .ref h0_0_8, .ref h0_0_9])), (h0, .inr (0, [.ref h0_0, .ref h0_1, .ref h0_2, .ref h0_3, .ref h0_4, .ref h0_5, .int (nI nm1), .int 0, .ref h0_8, .int 0, .int 0, .int 0, .int 0, .long 0, .int n4, .ref h0_15, .ref h0_16]))])) 0 0 (va_A [(h0_0_8, .inl (cI, 40, .inl fn1)), (h0_0_9, .inl (cI, 40, .inl (fun _ => 0))), (h0_0, .inr (4, [.int 0, .ref h0_0_1, .ref h0_0_2, .ref h0_0_3, .ref h0_0_4, .ref h0_0_5, .ref h0_0_6, .ref h0_0_7, .ref h0_0_8, .ref h0_0_9])), (h0, .inr (0, [.ref h0_0, .ref h0_1, .ref h0_2, .ref h0_3, .ref h0_4, .ref h0_5, .int (nI nm1), .int 0, .ref h0_8, .int 0, .int 0, .int 0, .int 0, .long 0, .int n4, .ref h0_15, .ref h0_16]))] sz) := by
  refine metW (cc := cX0_renewBans) (maxL := 2) (ret := none) (by decide) rfl (Nat.le_of_ble_eq_true rfl) ?_
  intro p e s m below meth c A ls hx hb hr hml hown hts hlocks hin hKK hP hD hA hS hl
  have hK := hKK.1
  have hown : s.vm.findClass RX0 = some m.cls := hown
  have hl : lv_has ls 2 [(0, .ref h0)] := hl
  have hP : va_P G vwCl [(h0_0_8, .inl (cI, 40, .inl fn1)), (h0_0_9, .inl (cI, 40, .inl (fun _ => 0))), (h0_0, .inr (4, [.int 0, .ref h0_0_1, .ref h0_0_2, .ref h0_0_3, .ref h0_0_4, .ref h0_0_5, .ref h0_0_6, .ref h0_0_7, .ref h0_0_8, .ref h0_0_9])), (h0, .inr (0, [.ref h0_0, .ref h0_1, .ref h0_2, .ref h0_3, .ref h0_4, .ref h0_5, .int (nI nm1), .int 0, .ref h0_8, .int 0, .int 0, .int 0, .int 0, .long 0, .int n4, .ref h0_15, .ref h0_16]))] s.heap := hP
  have hD : va_D A [(h0_0_8, .inl (cI, 40, .inl fn1)), (h0_0_9, .inl (cI, 40, .inl (fun _ => 0))), (h0_0, .inr (4, [.int 0, .ref h0_0_1, .ref h0_0_2, .ref h0_0_3, .ref h0_0_4, .ref h0_0_5, .ref h0_0_6, .ref h0_0_7, .ref h0_0_8, .ref h0_0_9])), (h0, .inr (0, [.ref h0_0, .ref h0_1, .ref h0_2, .ref h0_3, .ref h0_4, .ref h0_5, .int (nI nm1), .int 0, .ref h0_8, .int 0, .int 0, .int 0, .int 0, .long 0, .int n4, .ref h0_15, .ref h0_16]))] := hD
  have hI_nm1 : (nI nm1).toInt = (nm1 : Int) := nI_toInt (by omega)
  refine lv_iconst (v := 0) hx hb dX0_renewBans_0 (by decide) ?_
  refine lv_istore_n (lv' := [(1, .int 0), (0, .ref h0)]) hx hb dX0_renewBans_1 rfl hl (by decide) rfl (fun ls hl => ?_)
  refine lv_iload_n hx hb dX0_renewBans_2 rfl (lv_at hl 0 rfl) ?_
  refine lv_aload_n hx hb dX0_renewBans_3 rfl (lv_at hl 1 rfl) ?_
  refine va_get (D := G) (ci := 0) (v := .ref h0_0) (C := RX0) (T := TX0) (N := 17) hx hb hts cm_X0_renewBans_v1_0 hown hK hP 3 rfl rfl 0 (by decide) (hts _ (dmem (j := 0) rfl)) (fun _ h9 => h9) rfl dX0_renewBans_4 ?_
  refine va_get (D := G) (ci := 4) (v := .int 0) (C := RX4) (T := TX4) (N := 10) hx hb hts cm_X0_renewBans_v1_1 hown hK hP 2 rfl rfl 0 (by decide) (hts _ (dmem (j := 1) rfl)) (fun _ h9 => h9) rfl dX0_renewBans_7 ?_
  refine lv_icmp_ge (tgt := 45) hx hb dX0_renewBans_10 (by decide) (fun _ => ?_) (fun c => absurd c (by decide))
  refine lv_aload_n hx hb dX0_renewBans_45 rfl (lv_at hl 1 rfl) ?_
  refine va_get (D := G) (ci := 0) (v := .ref h0_0) (C := RX0) (T := TX0) (N := 17) hx hb hts cm_X0_renewBans_v1_0 hown hK hP 3 rfl rfl 0 (by decide) (hts _ (dmem (j := 0) rfl)) (fun _ h9 => h9) rfl dX0_renewBans_46 ?_
  refine va_get (D := G) (ci := 4) (v := .ref h0_0_9) (C := RX4) (T := TX4) (N := 10) hx hb hts cm_X0_renewBans_v1_1 hown hK hP 2 rfl rfl 9 (by decide) (hts _ (dmem (j := 2) rfl)) (fun _ h9 => h9) rfl dX0_renewBans_49 ?_
  refine lv_iconst (v := 0) hx hb dX0_renewBans_52 (by decide) ?_
  refine lv_aload_n hx hb dX0_renewBans_53 rfl (lv_at hl 1 rfl) ?_
  refine va_get (D := G) (ci := 0) (v := .ref h0_0) (C := RX0) (T := TX0) (N := 17) hx hb hts cm_X0_renewBans_v1_0 hown hK hP 3 rfl rfl 0 (by decide) (hts _ (dmem (j := 0) rfl)) (fun _ h9 => h9) rfl dX0_renewBans_54 ?_
  refine va_get (D := G) (ci := 4) (v := .ref h0_0_8) (C := RX4) (T := TX4) (N := 10) hx hb hts cm_X0_renewBans_v1_1 hown hK hP 2 rfl rfl 8 (by decide) (hts _ (dmem (j := 3) rfl)) (fun _ h9 => h9) rfl dX0_renewBans_57 ?_
  refine lv_iconst (v := 0) hx hb dX0_renewBans_60 (by decide) ?_
  refine lv_aload_n hx hb dX0_renewBans_61 rfl (lv_at hl 1 rfl) ?_
  refine va_get (D := G) (ci := 0) (v := .ref h0_0) (C := RX0) (T := TX0) (N := 17) hx hb hts cm_X0_renewBans_v1_0 hown hK hP 3 rfl rfl 0 (by decide) (hts _ (dmem (j := 0) rfl)) (fun _ h9 => h9) rfl dX0_renewBans_62 ?_
  refine va_get (D := G) (ci := 4) (v := .int 0) (C := RX4) (T := TX4) (N := 10) hx hb hts cm_X0_renewBans_v1_1 hown hK hP 2 rfl rfl 0 (by decide) (hts _ (dmem (j := 1) rfl)) (fun _ h9 => h9) rfl dX0_renewBans_65 ?_
  refine va_copyi (ty := .int) hx hb (by rw [hml]; exact hl.1.symm) hown (hts _ (dmem (j := 4) rfl)) (hts _ (dmem (j := 5) rfl)) (hts _ (dmem (j := 6) rfl)) (hts _ (dmem (j := 7) rfl)) hK hP hD hS 1 0 0 0 rfl rfl rfl rfl rfl (by decide) (by decide) (by decide) (by decide) (by decide) (fun _ _ => rfl) (Nat.le_of_ble_eq_true rfl) (Nat.le_of_ble_eq_true rfl) dX0_renewBans_68 (fun H locs => setW (ws' := [(h0_0_8, .inl (cI, 40, .inl (va_cpy (fun _ => 0) fn1 0 0 0))), (h0_0_9, .inl (cI, 40, .inl (fun _ => 0))), (h0_0, .inr (4, [.int 0, .ref h0_0_1, .ref h0_0_2, .ref h0_0_3, .ref h0_0_4, .ref h0_0_5, .ref h0_0_6, .ref h0_0_7, .ref h0_0_8, .ref h0_0_9])), (h0, .inr (0, [.ref h0_0, .ref h0_1, .ref h0_2, .ref h0_3, .ref h0_4, .ref h0_5, .int (nI nm1), .int 0, .ref h0_8, .int 0, .int 0, .int 0, .int 0, .long 0, .int n4, .ref h0_15, .ref h0_16]))]) rfl (fun hP hD hS => ?_))
  exact retV hx hb hr hlocks rfl hP hD hS (fun _ => 0) (fun k => match k with | 0 => (va_cpy (fun _ => 0) fn1 0 0 0) | _ => fun _ => 0) [0, 1, 2, 3] (by decide +kernel) rfl dX0_renewBans_71
def d_X0_payDraws_v2 : List Cond := [Cond.fieldLink RX0 12 "NoRent$County" "people" "LNoRent$People;", Cond.fieldLink RX0 263 "NoRent$People" "count" "I"]
def v_X0_payDraws_v2 : List Cond := Cond.code yX0_payDraws cX0_payDraws 4 none :: (d_X0_payDraws_v2 ++ (wsX00 ++ (wsX40 ++ ([] : List Cond))))
theorem cm_X0_payDraws_v2_0 : ∀ w ∈ wsX00, w ∈ v_X0_payDraws_v2 := fun _ h => List.mem_cons_of_mem _ (List.mem_append_right _ (List.mem_append_left _ h))
theorem cm_X0_payDraws_v2_1 : ∀ w ∈ wsX40, w ∈ v_X0_payDraws_v2 := fun _ h => List.mem_cons_of_mem _ (List.mem_append_right _ (List.mem_append_right _ (List.mem_append_left _ h)))
theorem gd_X0_payDraws_v2 : Gd v_X0_payDraws_v2 := gd_mk (by decide +kernel) (gd_app gd_X0 (gd_app gd_X4 gd_nil))
set_option maxHeartbeats 4000000 in
set_option maxRecDepth 100000 in
theorem c_X0_payDraws_v2 (l : Launch) (G : va_G) (cI cJ cZ cD cR cT : ClassId) (h0 : Nat) (h0_0 : Nat) (h0_0_1 : Nat) (h0_0_2 : Nat) (h0_0_3 : Nat) (h0_0_4 : Nat) (h0_0_5 : Nat) (h0_0_6 : Nat) (h0_0_7 : Nat) (h0_0_8 : Nat) (h0_0_9 : Nat) (h0_1 : Nat) (h0_2 : Nat) (h0_3 : Nat) (h0_4 : Nat) (h0_5 : Nat) (nm1 : Nat) (h0_8 : Nat) (n4 : Int32) (h0_15 : Nat) (h0_16 : Nat) (sz : Nat) (hn_nm1 : nm1 ≤ 398) : Met l yX0_payDraws v_X0_payDraws_v2 ({ frames := 1, cells := 0, slots := 0, locals := 40 }) (va_Pc [.ref h0] (PreW G (tys6 cI cJ cZ cD cR cT) [(h0_0, .inr (4, [.int 0, .ref h0_0_1, .ref h0_0_2, .ref h0_0_3, .ref h0_0_4, .ref h0_0_5, .ref h0_0_6, .ref h0_0_7, .ref h0_0_8, .ref h0_0_9])), (h0, .inr (0, [.ref h0_0, .ref h0_1, .ref h0_2, .ref h0_3, .ref h0_4, .ref h0_5, .int (nI nm1), .int 0, .ref h0_8, .int 0, .int 0, .int 0, .int 0, .long 0, .int n4, .ref h0_15, .ref h0_16]))] sz)) (QW RV G (va_A [(h0_0, .inr (4, [.int 0, .ref h0_0_1, .ref h0_0_2, .ref h0_0_3, .ref h0_0_4, .ref h0_0_5, .ref h0_0_6, .ref h0_0_7, .ref h0_0_8, .ref h0_0_9])), (h0, .inr (0, [.ref h0_0, .ref h0_1, .ref h0_2, .ref h0_3, .ref h0_4, .ref h0_5, .int (nI nm1), .int 0, .ref h0_8, .int 0, .int 0, .int 0, .int 0, .long 0, .int n4, .ref h0_15, .ref h0_16]))] sz) (fun q g => [(h0_0, .inr (4, [.int 0, .ref h0_0_1, .ref h0_0_2, .ref h0_0_3, .ref h0_0_4, .ref h0_0_5, .ref h0_0_6, .ref h0_0_7, .ref h0_0_8, .ref h0_0_9])), (h0, .inr (0, [.ref h0_0, .ref h0_1, .ref h0_2, .ref h0_3, .ref h0_4, .ref h0_5, .int (nI nm1), .int 0, .ref h0_8, .int 0, .int 0, .int 0, .int 0, .long 0, .int n4, .ref h0_15, .ref h0_16]))])) 0 0 (va_A [(h0_0, .inr (4, [.int 0, .ref h0_0_1, .ref h0_0_2, .ref h0_0_3, .ref h0_0_4, .ref h0_0_5, .ref h0_0_6, .ref h0_0_7, .ref h0_0_8, .ref h0_0_9])), (h0, .inr (0, [.ref h0_0, .ref h0_1, .ref h0_2, .ref h0_3, .ref h0_4, .ref h0_5, .int (nI nm1), .int 0, .ref h0_8, .int 0, .int 0, .int 0, .int 0, .long 0, .int n4, .ref h0_15, .ref h0_16]))] sz) := by
  refine metW (cc := cX0_payDraws) (maxL := 4) (ret := none) (by decide) rfl (Nat.le_of_ble_eq_true rfl) ?_
  intro p e s m below meth c A ls hx hb hr hml hown hts hlocks hin hKK hP hD hA hS hl
  have hK := hKK.1
  have hown : s.vm.findClass RX0 = some m.cls := hown
  have hl : lv_has ls 4 [(0, .ref h0)] := hl
  have hP : va_P G vwCl [(h0_0, .inr (4, [.int 0, .ref h0_0_1, .ref h0_0_2, .ref h0_0_3, .ref h0_0_4, .ref h0_0_5, .ref h0_0_6, .ref h0_0_7, .ref h0_0_8, .ref h0_0_9])), (h0, .inr (0, [.ref h0_0, .ref h0_1, .ref h0_2, .ref h0_3, .ref h0_4, .ref h0_5, .int (nI nm1), .int 0, .ref h0_8, .int 0, .int 0, .int 0, .int 0, .long 0, .int n4, .ref h0_15, .ref h0_16]))] s.heap := hP
  have hD : va_D A [(h0_0, .inr (4, [.int 0, .ref h0_0_1, .ref h0_0_2, .ref h0_0_3, .ref h0_0_4, .ref h0_0_5, .ref h0_0_6, .ref h0_0_7, .ref h0_0_8, .ref h0_0_9])), (h0, .inr (0, [.ref h0_0, .ref h0_1, .ref h0_2, .ref h0_3, .ref h0_4, .ref h0_5, .int (nI nm1), .int 0, .ref h0_8, .int 0, .int 0, .int 0, .int 0, .long 0, .int n4, .ref h0_15, .ref h0_16]))] := hD
  have hI_nm1 : (nI nm1).toInt = (nm1 : Int) := nI_toInt (by omega)
  refine lv_iconst (v := 0) hx hb dX0_payDraws_0 (by decide) ?_
  refine lv_istore_n (lv' := [(1, .int 0), (0, .ref h0)]) hx hb dX0_payDraws_1 rfl hl (by decide) rfl (fun ls hl => ?_)
  refine lv_iload_n hx hb dX0_payDraws_2 rfl (lv_at hl 0 rfl) ?_
  refine lv_aload_n hx hb dX0_payDraws_3 rfl (lv_at hl 1 rfl) ?_
  refine va_get (D := G) (ci := 0) (v := .ref h0_0) (C := RX0) (T := TX0) (N := 17) hx hb hts cm_X0_payDraws_v2_0 hown hK hP 1 rfl rfl 0 (by decide) (hts _ (dmem (j := 0) rfl)) (fun _ h9 => h9) rfl dX0_payDraws_4 ?_
  refine va_get (D := G) (ci := 4) (v := .int 0) (C := RX4) (T := TX4) (N := 10) hx hb hts cm_X0_payDraws_v2_1 hown hK hP 0 rfl rfl 0 (by decide) (hts _ (dmem (j := 1) rfl)) (fun _ h9 => h9) rfl dX0_payDraws_7 ?_
  refine lv_icmp_ge (tgt := 97) hx hb dX0_payDraws_10 (by decide) (fun _ => ?_) (fun c => absurd c (by decide))
  exact retV hx hb hr hlocks rfl hP hD hS (fun _ => 0) (fun _ _ => 0) [0, 1] (by decide +kernel) rfl dX0_payDraws_97
def d_X0_renewBans_v2 : List Cond := [Cond.fieldLink RX0 12 "NoRent$County" "people" "LNoRent$People;", Cond.fieldLink RX0 263 "NoRent$People" "count" "I", Cond.fieldLink RX0 274 "NoRent$People" "bannedNext" "[I", Cond.fieldLink RX0 277 "NoRent$People" "banned" "[I", Cond.methodLink RX0 280 arraycopyName, Cond.native arraycopyName, Cond.static arraycopyName, Cond.initialized "java/lang/System"]
def v_X0_renewBans_v2 : List Cond := Cond.code yX0_renewBans cX0_renewBans 2 none :: (d_X0_renewBans_v2 ++ (wsX00 ++ (wsX40 ++ ([] : List Cond))))
theorem cm_X0_renewBans_v2_0 : ∀ w ∈ wsX00, w ∈ v_X0_renewBans_v2 := fun _ h => List.mem_cons_of_mem _ (List.mem_append_right _ (List.mem_append_left _ h))
theorem cm_X0_renewBans_v2_1 : ∀ w ∈ wsX40, w ∈ v_X0_renewBans_v2 := fun _ h => List.mem_cons_of_mem _ (List.mem_append_right _ (List.mem_append_right _ (List.mem_append_left _ h)))
theorem gd_X0_renewBans_v2 : Gd v_X0_renewBans_v2 := gd_mk (by decide +kernel) (gd_app gd_X0 (gd_app gd_X4 gd_nil))
set_option maxHeartbeats 4000000 in
set_option maxRecDepth 100000 in
theorem c_X0_renewBans_v2 (l : Launch) (G : va_G) (cI cJ cZ cD cR cT : ClassId) (h0 : Nat) (h0_0_8 : Nat) (fn1 : Nat → Int32) (h0_0_9 : Nat) (h0_0 : Nat) (h0_0_1 : Nat) (h0_0_2 : Nat) (h0_0_3 : Nat) (h0_0_4 : Nat) (h0_0_5 : Nat) (h0_0_6 : Nat) (h0_0_7 : Nat) (h0_1 : Nat) (h0_2 : Nat) (h0_3 : Nat) (h0_4 : Nat) (h0_5 : Nat) (nm1 : Nat) (h0_8 : Nat) (n4 : Int32) (h0_15 : Nat) (h0_16 : Nat) (sz : Nat) (hn_nm1 : nm1 ≤ 398) : Met l yX0_renewBans v_X0_renewBans_v2 ({ frames := 1, cells := 0, slots := 0, locals := 60 }) (va_Pc [.ref h0] (PreW G (tys6 cI cJ cZ cD cR cT) [(h0_0_8, .inl (cI, 40, .inl fn1)), (h0_0_9, .inl (cI, 40, .inl (fun _ => 0))), (h0_0, .inr (4, [.int 0, .ref h0_0_1, .ref h0_0_2, .ref h0_0_3, .ref h0_0_4, .ref h0_0_5, .ref h0_0_6, .ref h0_0_7, .ref h0_0_8, .ref h0_0_9])), (h0, .inr (0, [.ref h0_0, .ref h0_1, .ref h0_2, .ref h0_3, .ref h0_4, .ref h0_5, .int (nI nm1), .int 0, .ref h0_8, .int 0, .int 0, .int 0, .int 0, .long 0, .int n4, .ref h0_15, .ref h0_16]))] sz)) (QW RV G (va_A [(h0_0_8, .inl (cI, 40, .inl fn1)), (h0_0_9, .inl (cI, 40, .inl (fun _ => 0))), (h0_0, .inr (4, [.int 0, .ref h0_0_1, .ref h0_0_2, .ref h0_0_3, .ref h0_0_4, .ref h0_0_5, .ref h0_0_6, .ref h0_0_7, .ref h0_0_8, .ref h0_0_9])), (h0, .inr (0, [.ref h0_0, .ref h0_1, .ref h0_2, .ref h0_3, .ref h0_4, .ref h0_5, .int (nI nm1), .int 0, .ref h0_8, .int 0, .int 0, .int 0, .int 0, .long 0, .int n4, .ref h0_15, .ref h0_16]))] sz) (fun q g => [(h0_0_8, .inl (cI, 40, .inl (g 0))), (h0_0_9, .inl (cI, 40, .inl (fun _ => 0))), (h0_0, .inr (4, [.int 0, .ref h0_0_1, .ref h0_0_2, .ref h0_0_3, .ref h0_0_4, .ref h0_0_5, .ref h0_0_6, .ref h0_0_7, .ref h0_0_8, .ref h0_0_9])), (h0, .inr (0, [.ref h0_0, .ref h0_1, .ref h0_2, .ref h0_3, .ref h0_4, .ref h0_5, .int (nI nm1), .int 0, .ref h0_8, .int 0, .int 0, .int 0, .int 0, .long 0, .int n4, .ref h0_15, .ref h0_16]))])) 0 0 (va_A [(h0_0_8, .inl (cI, 40, .inl fn1)), (h0_0_9, .inl (cI, 40, .inl (fun _ => 0))), (h0_0, .inr (4, [.int 0, .ref h0_0_1, .ref h0_0_2, .ref h0_0_3, .ref h0_0_4, .ref h0_0_5, .ref h0_0_6, .ref h0_0_7, .ref h0_0_8, .ref h0_0_9])), (h0, .inr (0, [.ref h0_0, .ref h0_1, .ref h0_2, .ref h0_3, .ref h0_4, .ref h0_5, .int (nI nm1), .int 0, .ref h0_8, .int 0, .int 0, .int 0, .int 0, .long 0, .int n4, .ref h0_15, .ref h0_16]))] sz) := by
  refine metW (cc := cX0_renewBans) (maxL := 2) (ret := none) (by decide) rfl (Nat.le_of_ble_eq_true rfl) ?_
  intro p e s m below meth c A ls hx hb hr hml hown hts hlocks hin hKK hP hD hA hS hl
  have hK := hKK.1
  have hown : s.vm.findClass RX0 = some m.cls := hown
  have hl : lv_has ls 2 [(0, .ref h0)] := hl
  have hP : va_P G vwCl [(h0_0_8, .inl (cI, 40, .inl fn1)), (h0_0_9, .inl (cI, 40, .inl (fun _ => 0))), (h0_0, .inr (4, [.int 0, .ref h0_0_1, .ref h0_0_2, .ref h0_0_3, .ref h0_0_4, .ref h0_0_5, .ref h0_0_6, .ref h0_0_7, .ref h0_0_8, .ref h0_0_9])), (h0, .inr (0, [.ref h0_0, .ref h0_1, .ref h0_2, .ref h0_3, .ref h0_4, .ref h0_5, .int (nI nm1), .int 0, .ref h0_8, .int 0, .int 0, .int 0, .int 0, .long 0, .int n4, .ref h0_15, .ref h0_16]))] s.heap := hP
  have hD : va_D A [(h0_0_8, .inl (cI, 40, .inl fn1)), (h0_0_9, .inl (cI, 40, .inl (fun _ => 0))), (h0_0, .inr (4, [.int 0, .ref h0_0_1, .ref h0_0_2, .ref h0_0_3, .ref h0_0_4, .ref h0_0_5, .ref h0_0_6, .ref h0_0_7, .ref h0_0_8, .ref h0_0_9])), (h0, .inr (0, [.ref h0_0, .ref h0_1, .ref h0_2, .ref h0_3, .ref h0_4, .ref h0_5, .int (nI nm1), .int 0, .ref h0_8, .int 0, .int 0, .int 0, .int 0, .long 0, .int n4, .ref h0_15, .ref h0_16]))] := hD
  have hI_nm1 : (nI nm1).toInt = (nm1 : Int) := nI_toInt (by omega)
  refine lv_iconst (v := 0) hx hb dX0_renewBans_0 (by decide) ?_
  refine lv_istore_n (lv' := [(1, .int 0), (0, .ref h0)]) hx hb dX0_renewBans_1 rfl hl (by decide) rfl (fun ls hl => ?_)
  refine lv_iload_n hx hb dX0_renewBans_2 rfl (lv_at hl 0 rfl) ?_
  refine lv_aload_n hx hb dX0_renewBans_3 rfl (lv_at hl 1 rfl) ?_
  refine va_get (D := G) (ci := 0) (v := .ref h0_0) (C := RX0) (T := TX0) (N := 17) hx hb hts cm_X0_renewBans_v2_0 hown hK hP 3 rfl rfl 0 (by decide) (hts _ (dmem (j := 0) rfl)) (fun _ h9 => h9) rfl dX0_renewBans_4 ?_
  refine va_get (D := G) (ci := 4) (v := .int 0) (C := RX4) (T := TX4) (N := 10) hx hb hts cm_X0_renewBans_v2_1 hown hK hP 2 rfl rfl 0 (by decide) (hts _ (dmem (j := 1) rfl)) (fun _ h9 => h9) rfl dX0_renewBans_7 ?_
  refine lv_icmp_ge (tgt := 45) hx hb dX0_renewBans_10 (by decide) (fun _ => ?_) (fun c => absurd c (by decide))
  refine lv_aload_n hx hb dX0_renewBans_45 rfl (lv_at hl 1 rfl) ?_
  refine va_get (D := G) (ci := 0) (v := .ref h0_0) (C := RX0) (T := TX0) (N := 17) hx hb hts cm_X0_renewBans_v2_0 hown hK hP 3 rfl rfl 0 (by decide) (hts _ (dmem (j := 0) rfl)) (fun _ h9 => h9) rfl dX0_renewBans_46 ?_
  refine va_get (D := G) (ci := 4) (v := .ref h0_0_9) (C := RX4) (T := TX4) (N := 10) hx hb hts cm_X0_renewBans_v2_1 hown hK hP 2 rfl rfl 9 (by decide) (hts _ (dmem (j := 2) rfl)) (fun _ h9 => h9) rfl dX0_renewBans_49 ?_
  refine lv_iconst (v := 0) hx hb dX0_renewBans_52 (by decide) ?_
  refine lv_aload_n hx hb dX0_renewBans_53 rfl (lv_at hl 1 rfl) ?_
  refine va_get (D := G) (ci := 0) (v := .ref h0_0) (C := RX0) (T := TX0) (N := 17) hx hb hts cm_X0_renewBans_v2_0 hown hK hP 3 rfl rfl 0 (by decide) (hts _ (dmem (j := 0) rfl)) (fun _ h9 => h9) rfl dX0_renewBans_54 ?_
  refine va_get (D := G) (ci := 4) (v := .ref h0_0_8) (C := RX4) (T := TX4) (N := 10) hx hb hts cm_X0_renewBans_v2_1 hown hK hP 2 rfl rfl 8 (by decide) (hts _ (dmem (j := 3) rfl)) (fun _ h9 => h9) rfl dX0_renewBans_57 ?_
  refine lv_iconst (v := 0) hx hb dX0_renewBans_60 (by decide) ?_
  refine lv_aload_n hx hb dX0_renewBans_61 rfl (lv_at hl 1 rfl) ?_
  refine va_get (D := G) (ci := 0) (v := .ref h0_0) (C := RX0) (T := TX0) (N := 17) hx hb hts cm_X0_renewBans_v2_0 hown hK hP 3 rfl rfl 0 (by decide) (hts _ (dmem (j := 0) rfl)) (fun _ h9 => h9) rfl dX0_renewBans_62 ?_
  refine va_get (D := G) (ci := 4) (v := .int 0) (C := RX4) (T := TX4) (N := 10) hx hb hts cm_X0_renewBans_v2_1 hown hK hP 2 rfl rfl 0 (by decide) (hts _ (dmem (j := 1) rfl)) (fun _ h9 => h9) rfl dX0_renewBans_65 ?_
  refine va_copyi (ty := .int) hx hb (by rw [hml]; exact hl.1.symm) hown (hts _ (dmem (j := 4) rfl)) (hts _ (dmem (j := 5) rfl)) (hts _ (dmem (j := 6) rfl)) (hts _ (dmem (j := 7) rfl)) hK hP hD hS 1 0 0 0 rfl rfl rfl rfl rfl (by decide) (by decide) (by decide) (by decide) (by decide) (fun _ _ => rfl) (Nat.le_of_ble_eq_true rfl) (Nat.le_of_ble_eq_true rfl) dX0_renewBans_68 (fun H locs => setW (ws' := [(h0_0_8, .inl (cI, 40, .inl (va_cpy (fun _ => 0) fn1 0 0 0))), (h0_0_9, .inl (cI, 40, .inl (fun _ => 0))), (h0_0, .inr (4, [.int 0, .ref h0_0_1, .ref h0_0_2, .ref h0_0_3, .ref h0_0_4, .ref h0_0_5, .ref h0_0_6, .ref h0_0_7, .ref h0_0_8, .ref h0_0_9])), (h0, .inr (0, [.ref h0_0, .ref h0_1, .ref h0_2, .ref h0_3, .ref h0_4, .ref h0_5, .int (nI nm1), .int 0, .ref h0_8, .int 0, .int 0, .int 0, .int 0, .long 0, .int n4, .ref h0_15, .ref h0_16]))]) rfl (fun hP hD hS => ?_))
  exact retV hx hb hr hlocks rfl hP hD hS (fun _ => 0) (fun k => match k with | 0 => (va_cpy (fun _ => 0) fn1 0 0 0) | _ => fun _ => 0) [0, 1, 2, 3] (by decide +kernel) rfl dX0_renewBans_71
def d_X0_collectRents_v1 : List Cond := [Cond.fieldLink RX0 21 "NoRent$County" "land" "LNoRent$Land;", Cond.fieldLink RX0 171 "NoRent$Land" "count" "I"]
def v_X0_collectRents_v1 : List Cond := Cond.code yX0_collectRents cX0_collectRents 7 none :: (d_X0_collectRents_v1 ++ (wsX00 ++ (wsX10 ++ ([] : List Cond))))
theorem cm_X0_collectRents_v1_0 : ∀ w ∈ wsX00, w ∈ v_X0_collectRents_v1 := fun _ h => List.mem_cons_of_mem _ (List.mem_append_right _ (List.mem_append_left _ h))
theorem cm_X0_collectRents_v1_1 : ∀ w ∈ wsX10, w ∈ v_X0_collectRents_v1 := fun _ h => List.mem_cons_of_mem _ (List.mem_append_right _ (List.mem_append_right _ (List.mem_append_left _ h)))
theorem gd_X0_collectRents_v1 : Gd v_X0_collectRents_v1 := gd_mk (by decide +kernel) (gd_app gd_X0 (gd_app gd_X1 gd_nil))
set_option maxHeartbeats 4000000 in
set_option maxRecDepth 100000 in
theorem c_X0_collectRents_v1 (l : Launch) (G : va_G) (cI cJ cZ cD cR cT : ClassId) (h0 : Nat) (h0_1 : Nat) (h0_1_1 : Nat) (h0_1_2 : Nat) (h0_1_3 : Nat) (h0_1_4 : Nat) (h0_1_5 : Nat) (h0_1_6 : Nat) (h0_1_7 : Nat) (h0_1_9 : Nat) (h0_1_10 : Nat) (h0_1_11 : Nat) (h0_0 : Nat) (h0_2 : Nat) (h0_3 : Nat) (h0_4 : Nat) (h0_5 : Nat) (nm1 : Nat) (h0_8 : Nat) (n4 : Int32) (h0_15 : Nat) (h0_16 : Nat) (sz : Nat) (hn_nm1 : nm1 ≤ 398) : Met l yX0_collectRents v_X0_collectRents_v1 ({ frames := 1, cells := 0, slots := 0, locals := 40 }) (va_Pc [.ref h0] (PreW G (tys6 cI cJ cZ cD cR cT) [(h0_1, .inr (1, [.int 0, .ref h0_1_1, .ref h0_1_2, .ref h0_1_3, .ref h0_1_4, .ref h0_1_5, .ref h0_1_6, .ref h0_1_7, .int 0, .ref h0_1_9, .ref h0_1_10, .ref h0_1_11, .int (-1), .long 0, .long 0])), (h0, .inr (0, [.ref h0_0, .ref h0_1, .ref h0_2, .ref h0_3, .ref h0_4, .ref h0_5, .int (nI nm1), .int 0, .ref h0_8, .int 0, .int 0, .int 0, .int 0, .long 0, .int n4, .ref h0_15, .ref h0_16]))] sz)) (QW RV G (va_A [(h0_1, .inr (1, [.int 0, .ref h0_1_1, .ref h0_1_2, .ref h0_1_3, .ref h0_1_4, .ref h0_1_5, .ref h0_1_6, .ref h0_1_7, .int 0, .ref h0_1_9, .ref h0_1_10, .ref h0_1_11, .int (-1), .long 0, .long 0])), (h0, .inr (0, [.ref h0_0, .ref h0_1, .ref h0_2, .ref h0_3, .ref h0_4, .ref h0_5, .int (nI nm1), .int 0, .ref h0_8, .int 0, .int 0, .int 0, .int 0, .long 0, .int n4, .ref h0_15, .ref h0_16]))] sz) (fun q g => [(h0_1, .inr (1, [.int 0, .ref h0_1_1, .ref h0_1_2, .ref h0_1_3, .ref h0_1_4, .ref h0_1_5, .ref h0_1_6, .ref h0_1_7, .int 0, .ref h0_1_9, .ref h0_1_10, .ref h0_1_11, .int (-1), .long 0, .long 0])), (h0, .inr (0, [.ref h0_0, .ref h0_1, .ref h0_2, .ref h0_3, .ref h0_4, .ref h0_5, .int (nI nm1), .int 0, .ref h0_8, .int 0, .int 0, .int 0, .int 0, .long 0, .int n4, .ref h0_15, .ref h0_16]))])) 0 0 (va_A [(h0_1, .inr (1, [.int 0, .ref h0_1_1, .ref h0_1_2, .ref h0_1_3, .ref h0_1_4, .ref h0_1_5, .ref h0_1_6, .ref h0_1_7, .int 0, .ref h0_1_9, .ref h0_1_10, .ref h0_1_11, .int (-1), .long 0, .long 0])), (h0, .inr (0, [.ref h0_0, .ref h0_1, .ref h0_2, .ref h0_3, .ref h0_4, .ref h0_5, .int (nI nm1), .int 0, .ref h0_8, .int 0, .int 0, .int 0, .int 0, .long 0, .int n4, .ref h0_15, .ref h0_16]))] sz) := by
  refine metW (cc := cX0_collectRents) (maxL := 7) (ret := none) (by decide) rfl (Nat.le_of_ble_eq_true rfl) ?_
  intro p e s m below meth c A ls hx hb hr hml hown hts hlocks hin hKK hP hD hA hS hl
  have hK := hKK.1
  have hown : s.vm.findClass RX0 = some m.cls := hown
  have hl : lv_has ls 7 [(0, .ref h0)] := hl
  have hP : va_P G vwCl [(h0_1, .inr (1, [.int 0, .ref h0_1_1, .ref h0_1_2, .ref h0_1_3, .ref h0_1_4, .ref h0_1_5, .ref h0_1_6, .ref h0_1_7, .int 0, .ref h0_1_9, .ref h0_1_10, .ref h0_1_11, .int (-1), .long 0, .long 0])), (h0, .inr (0, [.ref h0_0, .ref h0_1, .ref h0_2, .ref h0_3, .ref h0_4, .ref h0_5, .int (nI nm1), .int 0, .ref h0_8, .int 0, .int 0, .int 0, .int 0, .long 0, .int n4, .ref h0_15, .ref h0_16]))] s.heap := hP
  have hD : va_D A [(h0_1, .inr (1, [.int 0, .ref h0_1_1, .ref h0_1_2, .ref h0_1_3, .ref h0_1_4, .ref h0_1_5, .ref h0_1_6, .ref h0_1_7, .int 0, .ref h0_1_9, .ref h0_1_10, .ref h0_1_11, .int (-1), .long 0, .long 0])), (h0, .inr (0, [.ref h0_0, .ref h0_1, .ref h0_2, .ref h0_3, .ref h0_4, .ref h0_5, .int (nI nm1), .int 0, .ref h0_8, .int 0, .int 0, .int 0, .int 0, .long 0, .int n4, .ref h0_15, .ref h0_16]))] := hD
  have hI_nm1 : (nI nm1).toInt = (nm1 : Int) := nI_toInt (by omega)
  refine lv_iconst (v := 0) hx hb dX0_collectRents_0 (by decide) ?_
  refine lv_istore_n (lv' := [(1, .int 0), (0, .ref h0)]) hx hb dX0_collectRents_1 rfl hl (by decide) rfl (fun ls hl => ?_)
  refine lv_iload_n hx hb dX0_collectRents_2 rfl (lv_at hl 0 rfl) ?_
  refine lv_aload_n hx hb dX0_collectRents_3 rfl (lv_at hl 1 rfl) ?_
  refine va_get (D := G) (ci := 0) (v := .ref h0_1) (C := RX0) (T := TX0) (N := 17) hx hb hts cm_X0_collectRents_v1_0 hown hK hP 1 rfl rfl 1 (by decide) (hts _ (dmem (j := 0) rfl)) (fun _ h9 => h9) rfl dX0_collectRents_4 ?_
  refine va_get (D := G) (ci := 1) (v := .int 0) (C := RX1) (T := TX1) (N := 15) hx hb hts cm_X0_collectRents_v1_1 hown hK hP 0 rfl rfl 0 (by decide) (hts _ (dmem (j := 1) rfl)) (fun _ h9 => h9) rfl dX0_collectRents_7 ?_
  refine lv_icmp_ge (tgt := 181) hx hb dX0_collectRents_10 (by decide) (fun _ => ?_) (fun c => absurd c (by decide))
  exact retV hx hb hr hlocks rfl hP hD hS (fun _ => 0) (fun _ _ => 0) [0, 1] (by decide +kernel) rfl dX0_collectRents_181
def d_X0_payMortgages_v1 : List Cond := [Cond.fieldLink RX0 21 "NoRent$County" "land" "LNoRent$Land;", Cond.fieldLink RX0 216 "NoRent$Land" "estates" "I"]
def v_X0_payMortgages_v1 : List Cond := Cond.code yX0_payMortgages cX0_payMortgages 2 none :: (d_X0_payMortgages_v1 ++ (wsX00 ++ (wsX10 ++ ([] : List Cond))))
theorem cm_X0_payMortgages_v1_0 : ∀ w ∈ wsX00, w ∈ v_X0_payMortgages_v1 := fun _ h => List.mem_cons_of_mem _ (List.mem_append_right _ (List.mem_append_left _ h))
theorem cm_X0_payMortgages_v1_1 : ∀ w ∈ wsX10, w ∈ v_X0_payMortgages_v1 := fun _ h => List.mem_cons_of_mem _ (List.mem_append_right _ (List.mem_append_right _ (List.mem_append_left _ h)))
theorem gd_X0_payMortgages_v1 : Gd v_X0_payMortgages_v1 := gd_mk (by decide +kernel) (gd_app gd_X0 (gd_app gd_X1 gd_nil))
set_option maxHeartbeats 4000000 in
set_option maxRecDepth 100000 in
theorem c_X0_payMortgages_v1 (l : Launch) (G : va_G) (cI cJ cZ cD cR cT : ClassId) (h0 : Nat) (h0_1 : Nat) (h0_1_1 : Nat) (h0_1_2 : Nat) (h0_1_3 : Nat) (h0_1_4 : Nat) (h0_1_5 : Nat) (h0_1_6 : Nat) (h0_1_7 : Nat) (h0_1_9 : Nat) (h0_1_10 : Nat) (h0_1_11 : Nat) (h0_0 : Nat) (h0_2 : Nat) (h0_3 : Nat) (h0_4 : Nat) (h0_5 : Nat) (nm1 : Nat) (h0_8 : Nat) (n4 : Int32) (h0_15 : Nat) (h0_16 : Nat) (sz : Nat) (hn_nm1 : nm1 ≤ 398) : Met l yX0_payMortgages v_X0_payMortgages_v1 ({ frames := 1, cells := 0, slots := 0, locals := 40 }) (va_Pc [.ref h0] (PreW G (tys6 cI cJ cZ cD cR cT) [(h0_1, .inr (1, [.int 0, .ref h0_1_1, .ref h0_1_2, .ref h0_1_3, .ref h0_1_4, .ref h0_1_5, .ref h0_1_6, .ref h0_1_7, .int 0, .ref h0_1_9, .ref h0_1_10, .ref h0_1_11, .int (-1), .long 0, .long 0])), (h0, .inr (0, [.ref h0_0, .ref h0_1, .ref h0_2, .ref h0_3, .ref h0_4, .ref h0_5, .int (nI nm1), .int 0, .ref h0_8, .int 0, .int 0, .int 0, .int 0, .long 0, .int n4, .ref h0_15, .ref h0_16]))] sz)) (QW RV G (va_A [(h0_1, .inr (1, [.int 0, .ref h0_1_1, .ref h0_1_2, .ref h0_1_3, .ref h0_1_4, .ref h0_1_5, .ref h0_1_6, .ref h0_1_7, .int 0, .ref h0_1_9, .ref h0_1_10, .ref h0_1_11, .int (-1), .long 0, .long 0])), (h0, .inr (0, [.ref h0_0, .ref h0_1, .ref h0_2, .ref h0_3, .ref h0_4, .ref h0_5, .int (nI nm1), .int 0, .ref h0_8, .int 0, .int 0, .int 0, .int 0, .long 0, .int n4, .ref h0_15, .ref h0_16]))] sz) (fun q g => [(h0_1, .inr (1, [.int 0, .ref h0_1_1, .ref h0_1_2, .ref h0_1_3, .ref h0_1_4, .ref h0_1_5, .ref h0_1_6, .ref h0_1_7, .int 0, .ref h0_1_9, .ref h0_1_10, .ref h0_1_11, .int (-1), .long 0, .long 0])), (h0, .inr (0, [.ref h0_0, .ref h0_1, .ref h0_2, .ref h0_3, .ref h0_4, .ref h0_5, .int (nI nm1), .int 0, .ref h0_8, .int 0, .int 0, .int 0, .int 0, .long 0, .int n4, .ref h0_15, .ref h0_16]))])) 0 0 (va_A [(h0_1, .inr (1, [.int 0, .ref h0_1_1, .ref h0_1_2, .ref h0_1_3, .ref h0_1_4, .ref h0_1_5, .ref h0_1_6, .ref h0_1_7, .int 0, .ref h0_1_9, .ref h0_1_10, .ref h0_1_11, .int (-1), .long 0, .long 0])), (h0, .inr (0, [.ref h0_0, .ref h0_1, .ref h0_2, .ref h0_3, .ref h0_4, .ref h0_5, .int (nI nm1), .int 0, .ref h0_8, .int 0, .int 0, .int 0, .int 0, .long 0, .int n4, .ref h0_15, .ref h0_16]))] sz) := by
  refine metW (cc := cX0_payMortgages) (maxL := 2) (ret := none) (by decide) rfl (Nat.le_of_ble_eq_true rfl) ?_
  intro p e s m below meth c A ls hx hb hr hml hown hts hlocks hin hKK hP hD hA hS hl
  have hK := hKK.1
  have hown : s.vm.findClass RX0 = some m.cls := hown
  have hl : lv_has ls 2 [(0, .ref h0)] := hl
  have hP : va_P G vwCl [(h0_1, .inr (1, [.int 0, .ref h0_1_1, .ref h0_1_2, .ref h0_1_3, .ref h0_1_4, .ref h0_1_5, .ref h0_1_6, .ref h0_1_7, .int 0, .ref h0_1_9, .ref h0_1_10, .ref h0_1_11, .int (-1), .long 0, .long 0])), (h0, .inr (0, [.ref h0_0, .ref h0_1, .ref h0_2, .ref h0_3, .ref h0_4, .ref h0_5, .int (nI nm1), .int 0, .ref h0_8, .int 0, .int 0, .int 0, .int 0, .long 0, .int n4, .ref h0_15, .ref h0_16]))] s.heap := hP
  have hD : va_D A [(h0_1, .inr (1, [.int 0, .ref h0_1_1, .ref h0_1_2, .ref h0_1_3, .ref h0_1_4, .ref h0_1_5, .ref h0_1_6, .ref h0_1_7, .int 0, .ref h0_1_9, .ref h0_1_10, .ref h0_1_11, .int (-1), .long 0, .long 0])), (h0, .inr (0, [.ref h0_0, .ref h0_1, .ref h0_2, .ref h0_3, .ref h0_4, .ref h0_5, .int (nI nm1), .int 0, .ref h0_8, .int 0, .int 0, .int 0, .int 0, .long 0, .int n4, .ref h0_15, .ref h0_16]))] := hD
  have hI_nm1 : (nI nm1).toInt = (nm1 : Int) := nI_toInt (by omega)
  refine lv_iconst (v := 0) hx hb dX0_payMortgages_0 (by decide) ?_
  refine lv_istore_n (lv' := [(1, .int 0), (0, .ref h0)]) hx hb dX0_payMortgages_1 rfl hl (by decide) rfl (fun ls hl => ?_)
  refine lv_iload_n hx hb dX0_payMortgages_2 rfl (lv_at hl 0 rfl) ?_
  refine lv_aload_n hx hb dX0_payMortgages_3 rfl (lv_at hl 1 rfl) ?_
  refine va_get (D := G) (ci := 0) (v := .ref h0_1) (C := RX0) (T := TX0) (N := 17) hx hb hts cm_X0_payMortgages_v1_0 hown hK hP 1 rfl rfl 1 (by decide) (hts _ (dmem (j := 0) rfl)) (fun _ h9 => h9) rfl dX0_payMortgages_4 ?_
  refine va_get (D := G) (ci := 1) (v := .int 0) (C := RX1) (T := TX1) (N := 15) hx hb hts cm_X0_payMortgages_v1_1 hown hK hP 0 rfl rfl 8 (by decide) (hts _ (dmem (j := 1) rfl)) (fun _ h9 => h9) rfl dX0_payMortgages_7 ?_
  refine lv_icmp_ge (tgt := 106) hx hb dX0_payMortgages_10 (by decide) (fun _ => ?_) (fun c => absurd c (by decide))
  exact retV hx hb hr hlocks rfl hP hD hS (fun _ => 0) (fun _ _ => 0) [0, 1] (by decide +kernel) rfl dX0_payMortgages_106
def d_X0_passWeek : List Cond := [Cond.fieldLink RX0 93 "NoRent$County" "now" "I", Cond.methodLink RX0 133 yX0_lookAtNow, Cond.instanceMethod yX0_lookAtNow, Cond.selects RX0 yX0_lookAtNow yX0_lookAtNow, Cond.initialized RX0, Cond.methodLink RX0 136 yX0_reap, Cond.instanceMethod yX0_reap, Cond.selects RX0 yX0_reap yX0_reap, Cond.fieldLink RX0 28 "NoRent$County" "writs" "LNoRent$Writs;", Cond.fieldLink RX0 148 "NoRent$Writs" "count" "I", Cond.methodLink RX0 157 yX0_payDraws, Cond.instanceMethod yX0_payDraws, Cond.selects RX0 yX0_payDraws yX0_payDraws, Cond.fieldLink RX0 64 "NoRent$County" "onPaper" "Z", Cond.methodLink RX0 164 yX0_renewBans, Cond.instanceMethod yX0_renewBans, Cond.selects RX0 yX0_renewBans yX0_renewBans, Cond.methodLink RX0 139 yX0_collectRents, Cond.instanceMethod yX0_collectRents, Cond.selects RX0 yX0_collectRents yX0_collectRents, Cond.methodLink RX0 142 yX0_payMortgages, Cond.instanceMethod yX0_payMortgages, Cond.selects RX0 yX0_payMortgages yX0_payMortgages, Cond.fieldLink RX0 97 "NoRent$County" "choosing" "Z"]
def v_X0_passWeek : List Cond := Cond.code yX0_passWeek cX0_passWeek 2 none :: (d_X0_passWeek ++ (wsX00 ++ (v_X0_lookAtNow_v1 ++ (v_X0_reap_v1 ++ (wsX100 ++ (v_X0_payDraws_v1 ++ (v_X0_renewBans_v1 ++ (v_X0_payDraws_v2 ++ (v_X0_renewBans_v2 ++ (v_X0_collectRents_v1 ++ (v_X0_payMortgages_v1 ++ ([] : List Cond))))))))))))
theorem cm_X0_passWeek_0 : ∀ w ∈ wsX00, w ∈ v_X0_passWeek := fun _ h => List.mem_cons_of_mem _ (List.mem_append_right _ (List.mem_append_left _ h))
theorem cm_X0_passWeek_1 : ∀ w ∈ v_X0_lookAtNow_v1, w ∈ v_X0_passWeek := fun _ h => List.mem_cons_of_mem _ (List.mem_append_right _ (List.mem_append_right _ (List.mem_append_left _ h)))
theorem cm_X0_passWeek_2 : ∀ w ∈ v_X0_reap_v1, w ∈ v_X0_passWeek := fun _ h => List.mem_cons_of_mem _ (List.mem_append_right _ (List.mem_append_right _ (List.mem_append_right _ (List.mem_append_left _ h))))
theorem cm_X0_passWeek_3 : ∀ w ∈ wsX100, w ∈ v_X0_passWeek := fun _ h => List.mem_cons_of_mem _ (List.mem_append_right _ (List.mem_append_right _ (List.mem_append_right _ (List.mem_append_right _ (List.mem_append_left _ h)))))
theorem cm_X0_passWeek_4 : ∀ w ∈ v_X0_payDraws_v1, w ∈ v_X0_passWeek := fun _ h => List.mem_cons_of_mem _ (List.mem_append_right _ (List.mem_append_right _ (List.mem_append_right _ (List.mem_append_right _ (List.mem_append_right _ (List.mem_append_left _ h))))))
theorem cm_X0_passWeek_5 : ∀ w ∈ v_X0_renewBans_v1, w ∈ v_X0_passWeek := fun _ h => List.mem_cons_of_mem _ (List.mem_append_right _ (List.mem_append_right _ (List.mem_append_right _ (List.mem_append_right _ (List.mem_append_right _ (List.mem_append_right _ (List.mem_append_left _ h)))))))
theorem cm_X0_passWeek_6 : ∀ w ∈ v_X0_payDraws_v2, w ∈ v_X0_passWeek := fun _ h => List.mem_cons_of_mem _ (List.mem_append_right _ (List.mem_append_right _ (List.mem_append_right _ (List.mem_append_right _ (List.mem_append_right _ (List.mem_append_right _ (List.mem_append_right _ (List.mem_append_left _ h))))))))
theorem cm_X0_passWeek_7 : ∀ w ∈ v_X0_renewBans_v2, w ∈ v_X0_passWeek := fun _ h => List.mem_cons_of_mem _ (List.mem_append_right _ (List.mem_append_right _ (List.mem_append_right _ (List.mem_append_right _ (List.mem_append_right _ (List.mem_append_right _ (List.mem_append_right _ (List.mem_append_right _ (List.mem_append_left _ h)))))))))
theorem cm_X0_passWeek_8 : ∀ w ∈ v_X0_collectRents_v1, w ∈ v_X0_passWeek := fun _ h => List.mem_cons_of_mem _ (List.mem_append_right _ (List.mem_append_right _ (List.mem_append_right _ (List.mem_append_right _ (List.mem_append_right _ (List.mem_append_right _ (List.mem_append_right _ (List.mem_append_right _ (List.mem_append_right _ (List.mem_append_left _ h))))))))))
theorem cm_X0_passWeek_9 : ∀ w ∈ v_X0_payMortgages_v1, w ∈ v_X0_passWeek := fun _ h => List.mem_cons_of_mem _ (List.mem_append_right _ (List.mem_append_right _ (List.mem_append_right _ (List.mem_append_right _ (List.mem_append_right _ (List.mem_append_right _ (List.mem_append_right _ (List.mem_append_right _ (List.mem_append_right _ (List.mem_append_right _ (List.mem_append_left _ h)))))))))))
theorem gd_X0_passWeek : Gd v_X0_passWeek := gd_mk (by decide +kernel) (gd_app gd_X0 (gd_app gd_X0_lookAtNow_v1 (gd_app gd_X0_reap_v1 (gd_app gd_X10 (gd_app gd_X0_payDraws_v1 (gd_app gd_X0_renewBans_v1 (gd_app gd_X0_payDraws_v2 (gd_app gd_X0_renewBans_v2 (gd_app gd_X0_collectRents_v1 (gd_app gd_X0_payMortgages_v1 gd_nil))))))))))
set_option maxRecDepth 20000 in
theorem gv_X0_passWeek_133_X0_lookAtNow_v1 : GoodIn v_X0_passWeek (wsV RX0 133 RX0 yX0_lookAtNow v_X0_lookAtNow_v1) := goodIn_app (goodIn_of _ (by decide +kernel)) (gi cm_X0_passWeek_1 gd_X0_lookAtNow_v1)
set_option maxRecDepth 20000 in
theorem gv_X0_passWeek_136_X0_reap_v1 : GoodIn v_X0_passWeek (wsV RX0 136 RX0 yX0_reap v_X0_reap_v1) := goodIn_app (goodIn_of _ (by decide +kernel)) (gi cm_X0_passWeek_2 gd_X0_reap_v1)
set_option maxRecDepth 20000 in
theorem gv_X0_passWeek_157_X0_payDraws_v1 : GoodIn v_X0_passWeek (wsV RX0 157 RX0 yX0_payDraws v_X0_payDraws_v1) := goodIn_app (goodIn_of _ (by decide +kernel)) (gi cm_X0_passWeek_4 gd_X0_payDraws_v1)
set_option maxRecDepth 20000 in
theorem gv_X0_passWeek_164_X0_renewBans_v1 : GoodIn v_X0_passWeek (wsV RX0 164 RX0 yX0_renewBans v_X0_renewBans_v1) := goodIn_app (goodIn_of _ (by decide +kernel)) (gi cm_X0_passWeek_5 gd_X0_renewBans_v1)
set_option maxRecDepth 20000 in
theorem gv_X0_passWeek_157_X0_payDraws_v2 : GoodIn v_X0_passWeek (wsV RX0 157 RX0 yX0_payDraws v_X0_payDraws_v2) := goodIn_app (goodIn_of _ (by decide +kernel)) (gi cm_X0_passWeek_6 gd_X0_payDraws_v2)
set_option maxRecDepth 20000 in
theorem gv_X0_passWeek_164_X0_renewBans_v2 : GoodIn v_X0_passWeek (wsV RX0 164 RX0 yX0_renewBans v_X0_renewBans_v2) := goodIn_app (goodIn_of _ (by decide +kernel)) (gi cm_X0_passWeek_7 gd_X0_renewBans_v2)
set_option maxRecDepth 20000 in
theorem gv_X0_passWeek_139_X0_collectRents_v1 : GoodIn v_X0_passWeek (wsV RX0 139 RX0 yX0_collectRents v_X0_collectRents_v1) := goodIn_app (goodIn_of _ (by decide +kernel)) (gi cm_X0_passWeek_8 gd_X0_collectRents_v1)
set_option maxRecDepth 20000 in
theorem gv_X0_passWeek_142_X0_payMortgages_v1 : GoodIn v_X0_passWeek (wsV RX0 142 RX0 yX0_payMortgages v_X0_payMortgages_v1) := goodIn_app (goodIn_of _ (by decide +kernel)) (gi cm_X0_passWeek_9 gd_X0_payMortgages_v1)
set_option maxHeartbeats 4000000 in
set_option maxRecDepth 100000 in
theorem c_X0_passWeek (l : Launch) (G : va_G) (cI cJ cZ cD cR cT : ClassId) (h0 : Nat) (h0_0 : Nat) (h0_1 : Nat) (h0_2 : Nat) (h0_3 : Nat) (h0_4 : Nat) (h0_5 : Nat) (mm : Nat) (h0_8 : Nat) (pn : Int32) (h0_15 : Nat) (h0_16 : Nat) (h0_0_1 : Nat) (h0_0_2 : Nat) (h0_0_3 : Nat) (h0_0_4 : Nat) (h0_0_5 : Nat) (h0_0_6 : Nat) (h0_0_7 : Nat) (h0_0_8 : Nat) (h0_0_9 : Nat) (fb : Nat → Int32) (h0_1_1 : Nat) (h0_1_2 : Nat) (h0_1_3 : Nat) (h0_1_4 : Nat) (h0_1_5 : Nat) (h0_1_6 : Nat) (h0_1_7 : Nat) (h0_1_9 : Nat) (h0_1_10 : Nat) (h0_1_11 : Nat) (h0_2_1 : Nat) (h0_2_2 : Nat) (h0_2_3 : Nat) (h0_2_4 : Nat) (h0_2_5 : Nat) (h0_2_6 : Nat) (h0_2_8 : Nat) (h0_2_9 : Nat) (h0_2_10 : Nat) (h0_3_0 : Nat) (h0_3_1 : Nat) (fp : Nat → Int32) (h0_4_1 : Nat) (h0_4_2 : Nat) (h0_4_3 : Nat) (fs : Nat → Int32) (sz : Nat) (hn_mm : mm ≤ 398) : Met l yX0_passWeek v_X0_passWeek ({ frames := 4, cells := 0, slots := 0, locals := 108 }) (va_Pc [.ref h0] (PreW G (tys6 cI cJ cZ cD cR cT) [(h0, .inr (0, [.ref h0_0, .ref h0_1, .ref h0_2, .ref h0_3, .ref h0_4, .ref h0_5, .int (nI mm), .int 0, .ref h0_8, .int 0, .int 0, .int 0, .int 0, .long 0, .int pn, .ref h0_15, .ref h0_16])), (h0_0, .inr (4, [.int 0, .ref h0_0_1, .ref h0_0_2, .ref h0_0_3, .ref h0_0_4, .ref h0_0_5, .ref h0_0_6, .ref h0_0_7, .ref h0_0_8, .ref h0_0_9])), (h0_0_8, .inl (cI, 40, .inl fb)), (h0_0_9, .inl (cI, 40, .inl (fun _ => 0))), (h0_1, .inr (1, [.int 0, .ref h0_1_1, .ref h0_1_2, .ref h0_1_3, .ref h0_1_4, .ref h0_1_5, .ref h0_1_6, .ref h0_1_7, .int 0, .ref h0_1_9, .ref h0_1_10, .ref h0_1_11, .int (-1), .long 0, .long 0])), (h0_2, .inr (10, [.int 0, .ref h0_2_1, .ref h0_2_2, .ref h0_2_3, .ref h0_2_4, .ref h0_2_5, .ref h0_2_6, .int 0, .ref h0_2_8, .ref h0_2_9, .ref h0_2_10])), (h0_3, .inr (7, [.ref h0_3_0, .ref h0_3_1])), (h0_3_0, .inl (cI, 400, .inl fp)), (h0_3_1, .inl (cR, 400, .inr (.inr (.inr (.inr (fun _ => none)))))), (h0_4, .inr (2, [.int 0, .ref h0_4_1, .ref h0_4_2, .ref h0_4_3])), (h0_4_3, .inl (cI, 20, .inl fs))] sz)) (QW RV G (va_A [(h0, .inr (0, [.ref h0_0, .ref h0_1, .ref h0_2, .ref h0_3, .ref h0_4, .ref h0_5, .int (nI mm), .int 0, .ref h0_8, .int 0, .int 0, .int 0, .int 0, .long 0, .int pn, .ref h0_15, .ref h0_16])), (h0_0, .inr (4, [.int 0, .ref h0_0_1, .ref h0_0_2, .ref h0_0_3, .ref h0_0_4, .ref h0_0_5, .ref h0_0_6, .ref h0_0_7, .ref h0_0_8, .ref h0_0_9])), (h0_0_8, .inl (cI, 40, .inl fb)), (h0_0_9, .inl (cI, 40, .inl (fun _ => 0))), (h0_1, .inr (1, [.int 0, .ref h0_1_1, .ref h0_1_2, .ref h0_1_3, .ref h0_1_4, .ref h0_1_5, .ref h0_1_6, .ref h0_1_7, .int 0, .ref h0_1_9, .ref h0_1_10, .ref h0_1_11, .int (-1), .long 0, .long 0])), (h0_2, .inr (10, [.int 0, .ref h0_2_1, .ref h0_2_2, .ref h0_2_3, .ref h0_2_4, .ref h0_2_5, .ref h0_2_6, .int 0, .ref h0_2_8, .ref h0_2_9, .ref h0_2_10])), (h0_3, .inr (7, [.ref h0_3_0, .ref h0_3_1])), (h0_3_0, .inl (cI, 400, .inl fp)), (h0_3_1, .inl (cR, 400, .inr (.inr (.inr (.inr (fun _ => none)))))), (h0_4, .inr (2, [.int 0, .ref h0_4_1, .ref h0_4_2, .ref h0_4_3])), (h0_4_3, .inl (cI, 20, .inl fs))] sz) (fun q g => [(h0, .inr (0, [.ref h0_0, .ref h0_1, .ref h0_2, .ref h0_3, .ref h0_4, .ref h0_5, .int (nI (mm + 1)), .int 0, .ref h0_8, .int 0, .int 0, .int 0, .int 0, .long 0, .int (g 0 0), .ref h0_15, .ref h0_16])), (h0_0, .inr (4, [.int 0, .ref h0_0_1, .ref h0_0_2, .ref h0_0_3, .ref h0_0_4, .ref h0_0_5, .ref h0_0_6, .ref h0_0_7, .ref h0_0_8, .ref h0_0_9])), (h0_0_8, .inl (cI, 40, .inl (g 1))), (h0_0_9, .inl (cI, 40, .inl (fun _ => 0))), (h0_1, .inr (1, [.int 0, .ref h0_1_1, .ref h0_1_2, .ref h0_1_3, .ref h0_1_4, .ref h0_1_5, .ref h0_1_6, .ref h0_1_7, .int 0, .ref h0_1_9, .ref h0_1_10, .ref h0_1_11, .int (-1), .long 0, .long 0])), (h0_2, .inr (10, [.int 0, .ref h0_2_1, .ref h0_2_2, .ref h0_2_3, .ref h0_2_4, .ref h0_2_5, .ref h0_2_6, .int 0, .ref h0_2_8, .ref h0_2_9, .ref h0_2_10])), (h0_3, .inr (7, [.ref h0_3_0, .ref h0_3_1])), (h0_3_0, .inl (cI, 400, .inl fp)), (h0_3_1, .inl (cR, 400, .inr (.inr (.inr (.inr (fun _ => none)))))), (h0_4, .inr (2, [.int 0, .ref h0_4_1, .ref h0_4_2, .ref h0_4_3])), (h0_4_3, .inl (cI, 20, .inl (fillU fs 0 20)))])) 0 0 (va_A [(h0, .inr (0, [.ref h0_0, .ref h0_1, .ref h0_2, .ref h0_3, .ref h0_4, .ref h0_5, .int (nI mm), .int 0, .ref h0_8, .int 0, .int 0, .int 0, .int 0, .long 0, .int pn, .ref h0_15, .ref h0_16])), (h0_0, .inr (4, [.int 0, .ref h0_0_1, .ref h0_0_2, .ref h0_0_3, .ref h0_0_4, .ref h0_0_5, .ref h0_0_6, .ref h0_0_7, .ref h0_0_8, .ref h0_0_9])), (h0_0_8, .inl (cI, 40, .inl fb)), (h0_0_9, .inl (cI, 40, .inl (fun _ => 0))), (h0_1, .inr (1, [.int 0, .ref h0_1_1, .ref h0_1_2, .ref h0_1_3, .ref h0_1_4, .ref h0_1_5, .ref h0_1_6, .ref h0_1_7, .int 0, .ref h0_1_9, .ref h0_1_10, .ref h0_1_11, .int (-1), .long 0, .long 0])), (h0_2, .inr (10, [.int 0, .ref h0_2_1, .ref h0_2_2, .ref h0_2_3, .ref h0_2_4, .ref h0_2_5, .ref h0_2_6, .int 0, .ref h0_2_8, .ref h0_2_9, .ref h0_2_10])), (h0_3, .inr (7, [.ref h0_3_0, .ref h0_3_1])), (h0_3_0, .inl (cI, 400, .inl fp)), (h0_3_1, .inl (cR, 400, .inr (.inr (.inr (.inr (fun _ => none)))))), (h0_4, .inr (2, [.int 0, .ref h0_4_1, .ref h0_4_2, .ref h0_4_3])), (h0_4_3, .inl (cI, 20, .inl fs))] sz) := by
  refine metW (cc := cX0_passWeek) (maxL := 2) (ret := none) (by decide) rfl (Nat.le_of_ble_eq_true rfl) ?_
  intro p e s m below meth c A ls hx hb hr hml hown hts hlocks hin hKK hP hD hA hS hl
  have hK := hKK.1
  have hown : s.vm.findClass RX0 = some m.cls := hown
  have hl : lv_has ls 2 [(0, .ref h0)] := hl
  have hP : va_P G vwCl [(h0, .inr (0, [.ref h0_0, .ref h0_1, .ref h0_2, .ref h0_3, .ref h0_4, .ref h0_5, .int (nI mm), .int 0, .ref h0_8, .int 0, .int 0, .int 0, .int 0, .long 0, .int pn, .ref h0_15, .ref h0_16])), (h0_0, .inr (4, [.int 0, .ref h0_0_1, .ref h0_0_2, .ref h0_0_3, .ref h0_0_4, .ref h0_0_5, .ref h0_0_6, .ref h0_0_7, .ref h0_0_8, .ref h0_0_9])), (h0_0_8, .inl (cI, 40, .inl fb)), (h0_0_9, .inl (cI, 40, .inl (fun _ => 0))), (h0_1, .inr (1, [.int 0, .ref h0_1_1, .ref h0_1_2, .ref h0_1_3, .ref h0_1_4, .ref h0_1_5, .ref h0_1_6, .ref h0_1_7, .int 0, .ref h0_1_9, .ref h0_1_10, .ref h0_1_11, .int (-1), .long 0, .long 0])), (h0_2, .inr (10, [.int 0, .ref h0_2_1, .ref h0_2_2, .ref h0_2_3, .ref h0_2_4, .ref h0_2_5, .ref h0_2_6, .int 0, .ref h0_2_8, .ref h0_2_9, .ref h0_2_10])), (h0_3, .inr (7, [.ref h0_3_0, .ref h0_3_1])), (h0_3_0, .inl (cI, 400, .inl fp)), (h0_3_1, .inl (cR, 400, .inr (.inr (.inr (.inr (fun _ => none)))))), (h0_4, .inr (2, [.int 0, .ref h0_4_1, .ref h0_4_2, .ref h0_4_3])), (h0_4_3, .inl (cI, 20, .inl fs))] s.heap := hP
  have hD : va_D A [(h0, .inr (0, [.ref h0_0, .ref h0_1, .ref h0_2, .ref h0_3, .ref h0_4, .ref h0_5, .int (nI mm), .int 0, .ref h0_8, .int 0, .int 0, .int 0, .int 0, .long 0, .int pn, .ref h0_15, .ref h0_16])), (h0_0, .inr (4, [.int 0, .ref h0_0_1, .ref h0_0_2, .ref h0_0_3, .ref h0_0_4, .ref h0_0_5, .ref h0_0_6, .ref h0_0_7, .ref h0_0_8, .ref h0_0_9])), (h0_0_8, .inl (cI, 40, .inl fb)), (h0_0_9, .inl (cI, 40, .inl (fun _ => 0))), (h0_1, .inr (1, [.int 0, .ref h0_1_1, .ref h0_1_2, .ref h0_1_3, .ref h0_1_4, .ref h0_1_5, .ref h0_1_6, .ref h0_1_7, .int 0, .ref h0_1_9, .ref h0_1_10, .ref h0_1_11, .int (-1), .long 0, .long 0])), (h0_2, .inr (10, [.int 0, .ref h0_2_1, .ref h0_2_2, .ref h0_2_3, .ref h0_2_4, .ref h0_2_5, .ref h0_2_6, .int 0, .ref h0_2_8, .ref h0_2_9, .ref h0_2_10])), (h0_3, .inr (7, [.ref h0_3_0, .ref h0_3_1])), (h0_3_0, .inl (cI, 400, .inl fp)), (h0_3_1, .inl (cR, 400, .inr (.inr (.inr (.inr (fun _ => none)))))), (h0_4, .inr (2, [.int 0, .ref h0_4_1, .ref h0_4_2, .ref h0_4_3])), (h0_4_3, .inl (cI, 20, .inl fs))] := hD
  have hI_mm : (nI mm).toInt = (mm : Int) := nI_toInt (by omega)
  refine lv_aload_n hx hb dX0_passWeek_0 rfl (lv_at hl 0 rfl) ?_
  refine va_get (D := G) (ci := 0) (v := .int (nI mm)) (C := RX0) (T := TX0) (N := 17) hx hb hts cm_X0_passWeek_0 hown hK hP 0 rfl rfl 6 (by decide) (hts _ (dmem (j := 0) rfl)) (fun _ h9 => h9) rfl dX0_passWeek_1 ?_
  refine lv_sipush (v := 399) hx hb dX0_passWeek_4 (by decide) ?_
  refine lv_icmp_lt (tgt := 11) hx hb dX0_passWeek_7 (by decide) (fun c1 => ?_) (fun c1 => ?_)
  · have f2 : ((nI mm).toInt : Int) < 399 := Int32.lt_iff_toInt_lt.mp c1
    refine lv_aload_n hx hb dX0_passWeek_11 rfl (lv_at hl 0 rfl) ?_
    refine goV (As := []) (rest := []) (wr := [(h0_0, .inr (4, [.int 0, .ref h0_0_1, .ref h0_0_2, .ref h0_0_3, .ref h0_0_4, .ref h0_0_5, .ref h0_0_6, .ref h0_0_7, .ref h0_0_8, .ref h0_0_9])), (h0_0_8, .inl (cI, 40, .inl fb)), (h0_0_9, .inl (cI, 40, .inl (fun _ => 0))), (h0_1, .inr (1, [.int 0, .ref h0_1_1, .ref h0_1_2, .ref h0_1_3, .ref h0_1_4, .ref h0_1_5, .ref h0_1_6, .ref h0_1_7, .int 0, .ref h0_1_9, .ref h0_1_10, .ref h0_1_11, .int (-1), .long 0, .long 0])), (h0_2, .inr (10, [.int 0, .ref h0_2_1, .ref h0_2_2, .ref h0_2_3, .ref h0_2_4, .ref h0_2_5, .ref h0_2_6, .int 0, .ref h0_2_8, .ref h0_2_9, .ref h0_2_10])), (h0_3_1, .inl (cR, 400, .inr (.inr (.inr (.inr (fun _ => none))))))]) ⟨hx, hb, hml, hown, hts⟩ (c_X0_lookAtNow_v1 l G cI cJ cZ cD cR cT h0 h0_0 h0_1 h0_2 h0_3 h0_4 h0_5 mm h0_8 pn h0_15 h0_16 h0_3_0 h0_3_1 fp h0_4_1 h0_4_2 h0_4_3 fs _ (by omega)) (cwV 0 hts gv_X0_passWeek_133_X0_lookAtNow_v1 rfl rfl rfl (by decide +kernel) ⟨Nat.le_of_ble_eq_true rfl, Nat.le_of_ble_eq_true rfl⟩) 0 rfl rfl rfl hKK hP hD hS hA [0, 6, 7, 9, 10] [1, 2, 3, 4, 5, 8] rfl rfl (by decide +kernel) (by decide +kernel) (by decide +kernel) rfl hl.1 rfl (lv_room (Nat.le_of_ble_eq_true rfl)) dX0_passWeek_12 ⟨Nat.le_of_ble_eq_true rfl, Nat.le_of_ble_eq_true rfl⟩ (fun v4 q3 gq3 H locs hv4 => appW (ws' := [(h0_0, .inr (4, [.int 0, .ref h0_0_1, .ref h0_0_2, .ref h0_0_3, .ref h0_0_4, .ref h0_0_5, .ref h0_0_6, .ref h0_0_7, .ref h0_0_8, .ref h0_0_9])), (h0_0_8, .inl (cI, 40, .inl fb)), (h0_0_9, .inl (cI, 40, .inl (fun _ => 0))), (h0_1, .inr (1, [.int 0, .ref h0_1_1, .ref h0_1_2, .ref h0_1_3, .ref h0_1_4, .ref h0_1_5, .ref h0_1_6, .ref h0_1_7, .int 0, .ref h0_1_9, .ref h0_1_10, .ref h0_1_11, .int (-1), .long 0, .long 0])), (h0_2, .inr (10, [.int 0, .ref h0_2_1, .ref h0_2_2, .ref h0_2_3, .ref h0_2_4, .ref h0_2_5, .ref h0_2_6, .int 0, .ref h0_2_8, .ref h0_2_9, .ref h0_2_10])), (h0_3_1, .inl (cR, 400, .inr (.inr (.inr (.inr (fun _ => none)))))), (h0, .inr (0, [.ref h0_0, .ref h0_1, .ref h0_2, .ref h0_3, .ref h0_4, .ref h0_5, .int (nI mm), .int 0, .ref h0_8, .int 0, .int 0, .int 0, .int 0, .long 0, .int (gq3 0 0), .ref h0_15, .ref h0_16])), (h0_3, .inr (7, [.ref h0_3_0, .ref h0_3_1])), (h0_3_0, .inl (cI, 400, .inl fp)), (h0_4, .inr (2, [.int 0, .ref h0_4_1, .ref h0_4_2, .ref h0_4_3])), (h0_4_3, .inl (cI, 20, .inl (fillU fs 0 20)))]) rfl (fun hP hD hS => ?_))
    obtain rfl := hv4
    refine lv_aload_n hx hb dX0_passWeek_15 rfl (lv_at hl 0 rfl) ?_
    refine goV (As := []) (rest := []) (wr := [(h0_0, .inr (4, [.int 0, .ref h0_0_1, .ref h0_0_2, .ref h0_0_3, .ref h0_0_4, .ref h0_0_5, .ref h0_0_6, .ref h0_0_7, .ref h0_0_8, .ref h0_0_9])), (h0_0_8, .inl (cI, 40, .inl fb)), (h0_0_9, .inl (cI, 40, .inl (fun _ => 0))), (h0_1, .inr (1, [.int 0, .ref h0_1_1, .ref h0_1_2, .ref h0_1_3, .ref h0_1_4, .ref h0_1_5, .ref h0_1_6, .ref h0_1_7, .int 0, .ref h0_1_9, .ref h0_1_10, .ref h0_1_11, .int (-1), .long 0, .long 0])), (h0_2, .inr (10, [.int 0, .ref h0_2_1, .ref h0_2_2, .ref h0_2_3, .ref h0_2_4, .ref h0_2_5, .ref h0_2_6, .int 0, .ref h0_2_8, .ref h0_2_9, .ref h0_2_10])), (h0_3_0, .inl (cI, 400, .inl fp)), (h0_4, .inr (2, [.int 0, .ref h0_4_1, .ref h0_4_2, .ref h0_4_3])), (h0_4_3, .inl (cI, 20, .inl (fillU fs 0 20)))]) ⟨hx, hb, hml, hown, hts⟩ (c_X0_reap_v1 l G cI cJ cZ cD cR cT h0 h0_3_1 h0_0 h0_1 h0_2 h0_3 h0_4 h0_5 mm h0_8 (gq3 0 0) h0_15 h0_16 h0_3_0 _ (by omega)) (cwV 0 hts gv_X0_passWeek_136_X0_reap_v1 rfl rfl rfl (by decide +kernel) ⟨Nat.le_of_ble_eq_true rfl, Nat.le_of_ble_eq_true rfl⟩) 6 rfl rfl rfl hKK hP hD hS hA [5, 6, 7] [0, 1, 2, 3, 4, 8, 9, 10] rfl rfl (by decide +kernel) (by decide +kernel) (by decide +kernel) rfl hl.1 rfl (lv_room (Nat.le_of_ble_eq_true rfl)) dX0_passWeek_16 ⟨Nat.le_of_ble_eq_true rfl, Nat.le_of_ble_eq_true rfl⟩ (fun v6 q5 gq5 H locs hv6 => appW (ws' := [(h0_0, .inr (4, [.int 0, .ref h0_0_1, .ref h0_0_2, .ref h0_0_3, .ref h0_0_4, .ref h0_0_5, .ref h0_0_6, .ref h0_0_7, .ref h0_0_8, .ref h0_0_9])), (h0_0_8, .inl (cI, 40, .inl fb)), (h0_0_9, .inl (cI, 40, .inl (fun _ => 0))), (h0_1, .inr (1, [.int 0, .ref h0_1_1, .ref h0_1_2, .ref h0_1_3, .ref h0_1_4, .ref h0_1_5, .ref h0_1_6, .ref h0_1_7, .int 0, .ref h0_1_9, .ref h0_1_10, .ref h0_1_11, .int (-1), .long 0, .long 0])), (h0_2, .inr (10, [.int 0, .ref h0_2_1, .ref h0_2_2, .ref h0_2_3, .ref h0_2_4, .ref h0_2_5, .ref h0_2_6, .int 0, .ref h0_2_8, .ref h0_2_9, .ref h0_2_10])), (h0_3_0, .inl (cI, 400, .inl fp)), (h0_4, .inr (2, [.int 0, .ref h0_4_1, .ref h0_4_2, .ref h0_4_3])), (h0_4_3, .inl (cI, 20, .inl (fillU fs 0 20))), (h0_3_1, .inl (cR, 400, .inr (.inr (.inr (.inr (fun _ => none)))))), (h0, .inr (0, [.ref h0_0, .ref h0_1, .ref h0_2, .ref h0_3, .ref h0_4, .ref h0_5, .int (nI mm), .int 0, .ref h0_8, .int 0, .int 0, .int 0, .int 0, .long 0, .int (gq3 0 0), .ref h0_15, .ref h0_16])), (h0_3, .inr (7, [.ref h0_3_0, .ref h0_3_1]))]) rfl (fun hP hD hS => ?_))
    obtain rfl := hv6
    refine lv_aload_n hx hb dX0_passWeek_19 rfl (lv_at hl 0 rfl) ?_
    refine va_get (D := G) (ci := 0) (v := .int (nI mm)) (C := RX0) (T := TX0) (N := 17) hx hb hts cm_X0_passWeek_0 hown hK hP 9 rfl rfl 6 (by decide) (hts _ (dmem (j := 0) rfl)) (fun _ h9 => h9) rfl dX0_passWeek_20 ?_
    refine lv_if_eq (tgt := 55) hx hb dX0_passWeek_23 (by decide) (fun c7 => ?_) (fun c7 => ?_)
    · have f8 : ((nI mm).toInt : Int) = 0 := congrArg Int32.toInt c7
      refine lv_iconst (v := 0) hx hb dX0_passWeek_55 (by decide) ?_
      refine lv_istore_n (lv' := [(1, .int 0), (0, .ref h0)]) hx hb dX0_passWeek_56 rfl hl (by decide) rfl (fun ls hl => ?_)
      refine lv_iload_n hx hb dX0_passWeek_57 rfl (lv_at hl 0 rfl) ?_
      refine lv_aload_n hx hb dX0_passWeek_58 rfl (lv_at hl 1 rfl) ?_
      refine va_get (D := G) (ci := 0) (v := .ref h0_2) (C := RX0) (T := TX0) (N := 17) hx hb hts cm_X0_passWeek_0 hown hK hP 9 rfl rfl 2 (by decide) (hts _ (dmem (j := 8) rfl)) (fun _ h9 => h9) rfl dX0_passWeek_59 ?_
      refine va_get (D := G) (ci := 10) (v := .int 0) (C := RX10) (T := TX10) (N := 11) hx hb hts cm_X0_passWeek_3 hown hK hP 4 rfl rfl 0 (by decide) (hts _ (dmem (j := 9) rfl)) (fun _ h9 => h9) rfl dX0_passWeek_62 ?_
      refine lv_icmp_ge (tgt := 92) hx hb dX0_passWeek_65 (by decide) (fun _ => ?_) (fun c => absurd c (by decide))
      refine lv_aload_n hx hb dX0_passWeek_92 rfl (lv_at hl 1 rfl) ?_
      refine goV (As := []) (rest := []) (wr := [(h0_0_8, .inl (cI, 40, .inl fb)), (h0_0_9, .inl (cI, 40, .inl (fun _ => 0))), (h0_1, .inr (1, [.int 0, .ref h0_1_1, .ref h0_1_2, .ref h0_1_3, .ref h0_1_4, .ref h0_1_5, .ref h0_1_6, .ref h0_1_7, .int 0, .ref h0_1_9, .ref h0_1_10, .ref h0_1_11, .int (-1), .long 0, .long 0])), (h0_2, .inr (10, [.int 0, .ref h0_2_1, .ref h0_2_2, .ref h0_2_3, .ref h0_2_4, .ref h0_2_5, .ref h0_2_6, .int 0, .ref h0_2_8, .ref h0_2_9, .ref h0_2_10])), (h0_3_0, .inl (cI, 400, .inl fp)), (h0_4, .inr (2, [.int 0, .ref h0_4_1, .ref h0_4_2, .ref h0_4_3])), (h0_4_3, .inl (cI, 20, .inl (fillU fs 0 20))), (h0_3_1, .inl (cR, 400, .inr (.inr (.inr (.inr (fun _ => none)))))), (h0_3, .inr (7, [.ref h0_3_0, .ref h0_3_1]))]) ⟨hx, hb, hml, hown, hts⟩ (c_X0_payDraws_v1 l G cI cJ cZ cD cR cT h0 h0_0 h0_0_1 h0_0_2 h0_0_3 h0_0_4 h0_0_5 h0_0_6 h0_0_7 h0_0_8 h0_0_9 h0_1 h0_2 h0_3 h0_4 h0_5 mm h0_8 (gq3 0 0) h0_15 h0_16 _ (by omega)) (cwV 0 hts gv_X0_passWeek_157_X0_payDraws_v1 rfl rfl rfl (by decide +kernel) ⟨Nat.le_of_ble_eq_true rfl, Nat.le_of_ble_eq_true rfl⟩) 9 rfl rfl rfl hKK hP hD hS hA [0, 9] [1, 2, 3, 4, 5, 6, 7, 8, 10] rfl rfl (by decide +kernel) (by decide +kernel) (by decide +kernel) rfl hl.1 rfl (lv_room (Nat.le_of_ble_eq_true rfl)) dX0_passWeek_93 ⟨Nat.le_of_ble_eq_true rfl, Nat.le_of_ble_eq_true rfl⟩ (fun v10 q9 gq9 H locs hv10 => appW (ws' := [(h0_0_8, .inl (cI, 40, .inl fb)), (h0_0_9, .inl (cI, 40, .inl (fun _ => 0))), (h0_1, .inr (1, [.int 0, .ref h0_1_1, .ref h0_1_2, .ref h0_1_3, .ref h0_1_4, .ref h0_1_5, .ref h0_1_6, .ref h0_1_7, .int 0, .ref h0_1_9, .ref h0_1_10, .ref h0_1_11, .int (-1), .long 0, .long 0])), (h0_2, .inr (10, [.int 0, .ref h0_2_1, .ref h0_2_2, .ref h0_2_3, .ref h0_2_4, .ref h0_2_5, .ref h0_2_6, .int 0, .ref h0_2_8, .ref h0_2_9, .ref h0_2_10])), (h0_3_0, .inl (cI, 400, .inl fp)), (h0_4, .inr (2, [.int 0, .ref h0_4_1, .ref h0_4_2, .ref h0_4_3])), (h0_4_3, .inl (cI, 20, .inl (fillU fs 0 20))), (h0_3_1, .inl (cR, 400, .inr (.inr (.inr (.inr (fun _ => none)))))), (h0_3, .inr (7, [.ref h0_3_0, .ref h0_3_1])), (h0_0, .inr (4, [.int 0, .ref h0_0_1, .ref h0_0_2, .ref h0_0_3, .ref h0_0_4, .ref h0_0_5, .ref h0_0_6, .ref h0_0_7, .ref h0_0_8, .ref h0_0_9])), (h0, .inr (0, [.ref h0_0, .ref h0_1, .ref h0_2, .ref h0_3, .ref h0_4, .ref h0_5, .int (nI mm), .int 0, .ref h0_8, .int 0, .int 0, .int 0, .int 0, .long 0, .int (gq3 0 0), .ref h0_15, .ref h0_16]))]) rfl (fun hP hD hS => ?_))
      obtain rfl := hv10
      refine lv_aload_n hx hb dX0_passWeek_96 rfl (lv_at hl 1 rfl) ?_
      refine va_get (D := G) (ci := 0) (v := .int 0) (C := RX0) (T := TX0) (N := 17) hx hb hts cm_X0_passWeek_0 hown hK hP 10 rfl rfl 7 (by decide) (hts _ (dmem (j := 13) rfl)) (fun _ h9 => h9) rfl dX0_passWeek_97 ?_
      refine lv_if_eq (tgt := 113) hx hb dX0_passWeek_100 (by decide) (fun _ => ?_) (fun c => absurd c (by decide))
      refine lv_aload_n hx hb dX0_passWeek_113 rfl (lv_at hl 1 rfl) ?_
      refine goV (As := []) (rest := []) (wr := [(h0_1, .inr (1, [.int 0, .ref h0_1_1, .ref h0_1_2, .ref h0_1_3, .ref h0_1_4, .ref h0_1_5, .ref h0_1_6, .ref h0_1_7, .int 0, .ref h0_1_9, .ref h0_1_10, .ref h0_1_11, .int (-1), .long 0, .long 0])), (h0_2, .inr (10, [.int 0, .ref h0_2_1, .ref h0_2_2, .ref h0_2_3, .ref h0_2_4, .ref h0_2_5, .ref h0_2_6, .int 0, .ref h0_2_8, .ref h0_2_9, .ref h0_2_10])), (h0_3_0, .inl (cI, 400, .inl fp)), (h0_4, .inr (2, [.int 0, .ref h0_4_1, .ref h0_4_2, .ref h0_4_3])), (h0_4_3, .inl (cI, 20, .inl (fillU fs 0 20))), (h0_3_1, .inl (cR, 400, .inr (.inr (.inr (.inr (fun _ => none)))))), (h0_3, .inr (7, [.ref h0_3_0, .ref h0_3_1]))]) ⟨hx, hb, hml, hown, hts⟩ (c_X0_renewBans_v1 l G cI cJ cZ cD cR cT h0 h0_0_8 fb h0_0_9 h0_0 h0_0_1 h0_0_2 h0_0_3 h0_0_4 h0_0_5 h0_0_6 h0_0_7 h0_1 h0_2 h0_3 h0_4 h0_5 mm h0_8 (gq3 0 0) h0_15 h0_16 _ (by omega)) (cwV 0 hts gv_X0_passWeek_164_X0_renewBans_v1 rfl rfl rfl (by decide +kernel) ⟨Nat.le_of_ble_eq_true rfl, Nat.le_of_ble_eq_true rfl⟩) 10 rfl rfl rfl hKK hP hD hS hA [0, 1, 9, 10] [2, 3, 4, 5, 6, 7, 8] rfl rfl (by decide +kernel) (by decide +kernel) (by decide +kernel) rfl hl.1 rfl (lv_room (Nat.le_of_ble_eq_true rfl)) dX0_passWeek_114 ⟨Nat.le_of_ble_eq_true rfl, Nat.le_of_ble_eq_true rfl⟩ (fun v12 q11 gq11 H locs hv12 => appW (ws' := [(h0_1, .inr (1, [.int 0, .ref h0_1_1, .ref h0_1_2, .ref h0_1_3, .ref h0_1_4, .ref h0_1_5, .ref h0_1_6, .ref h0_1_7, .int 0, .ref h0_1_9, .ref h0_1_10, .ref h0_1_11, .int (-1), .long 0, .long 0])), (h0_2, .inr (10, [.int 0, .ref h0_2_1, .ref h0_2_2, .ref h0_2_3, .ref h0_2_4, .ref h0_2_5, .ref h0_2_6, .int 0, .ref h0_2_8, .ref h0_2_9, .ref h0_2_10])), (h0_3_0, .inl (cI, 400, .inl fp)), (h0_4, .inr (2, [.int 0, .ref h0_4_1, .ref h0_4_2, .ref h0_4_3])), (h0_4_3, .inl (cI, 20, .inl (fillU fs 0 20))), (h0_3_1, .inl (cR, 400, .inr (.inr (.inr (.inr (fun _ => none)))))), (h0_3, .inr (7, [.ref h0_3_0, .ref h0_3_1])), (h0_0_8, .inl (cI, 40, .inl (gq11 0))), (h0_0_9, .inl (cI, 40, .inl (fun _ => 0))), (h0_0, .inr (4, [.int 0, .ref h0_0_1, .ref h0_0_2, .ref h0_0_3, .ref h0_0_4, .ref h0_0_5, .ref h0_0_6, .ref h0_0_7, .ref h0_0_8, .ref h0_0_9])), (h0, .inr (0, [.ref h0_0, .ref h0_1, .ref h0_2, .ref h0_3, .ref h0_4, .ref h0_5, .int (nI mm), .int 0, .ref h0_8, .int 0, .int 0, .int 0, .int 0, .long 0, .int (gq3 0 0), .ref h0_15, .ref h0_16]))]) rfl (fun hP hD hS => ?_))
      obtain rfl := hv12
      refine lv_aload_n hx hb dX0_passWeek_117 rfl (lv_at hl 1 rfl) ?_
      refine lv_dup hx hb dX0_passWeek_118 rfl ?_
      refine va_get (D := G) (ci := 0) (v := .int (nI mm)) (C := RX0) (T := TX0) (N := 17) hx hb hts cm_X0_passWeek_0 hown hK hP 10 rfl rfl 6 (by decide) (hts _ (dmem (j := 0) rfl)) (fun _ h9 => h9) rfl dX0_passWeek_119 ?_
      refine lv_iconst (v := 1) hx hb dX0_passWeek_122 (by decide) ?_
      refine lv_iadd hx hb dX0_passWeek_123 ?_
      refine lv_topi (fun x13 ex13 => ?_)
      obtain rfl : (nI (mm + 1)) = x13 := (ex13.trans (nI_1 mm)).symm
      refine va_put (D := G) (ci := 0) (v := .int (nI (mm + 1))) (ty := .int) (C := RX0) (T := TX0) (N := 17) hx hb hts cm_X0_passWeek_0 tyX0 tyX0_ok nmX0 hown hK hP hD hS 10 rfl rfl 6 (by decide) (hts _ (dmem (j := 0) rfl)) (fun _ h9 => h9) rfl (by decide +kernel) rfl rfl (Nat.le_of_ble_eq_true rfl) dX0_passWeek_124 (fun H locs => setW (ws' := [(h0_1, .inr (1, [.int 0, .ref h0_1_1, .ref h0_1_2, .ref h0_1_3, .ref h0_1_4, .ref h0_1_5, .ref h0_1_6, .ref h0_1_7, .int 0, .ref h0_1_9, .ref h0_1_10, .ref h0_1_11, .int (-1), .long 0, .long 0])), (h0_2, .inr (10, [.int 0, .ref h0_2_1, .ref h0_2_2, .ref h0_2_3, .ref h0_2_4, .ref h0_2_5, .ref h0_2_6, .int 0, .ref h0_2_8, .ref h0_2_9, .ref h0_2_10])), (h0_3_0, .inl (cI, 400, .inl fp)), (h0_4, .inr (2, [.int 0, .ref h0_4_1, .ref h0_4_2, .ref h0_4_3])), (h0_4_3, .inl (cI, 20, .inl (fillU fs 0 20))), (h0_3_1, .inl (cR, 400, .inr (.inr (.inr (.inr (fun _ => none)))))), (h0_3, .inr (7, [.ref h0_3_0, .ref h0_3_1])), (h0_0_8, .inl (cI, 40, .inl (gq11 0))), (h0_0_9, .inl (cI, 40, .inl (fun _ => 0))), (h0_0, .inr (4, [.int 0, .ref h0_0_1, .ref h0_0_2, .ref h0_0_3, .ref h0_0_4, .ref h0_0_5, .ref h0_0_6, .ref h0_0_7, .ref h0_0_8, .ref h0_0_9])), (h0, .inr (0, [.ref h0_0, .ref h0_1, .ref h0_2, .ref h0_3, .ref h0_4, .ref h0_5, .int (nI (mm + 1)), .int 0, .ref h0_8, .int 0, .int 0, .int 0, .int 0, .long 0, .int (gq3 0 0), .ref h0_15, .ref h0_16]))]) rfl (fun hP hD hS => ?_))
      exact retV hx hb hr hlocks rfl hP hD hS (fun _ => 0) (fun k => match k with | 0 => (fun _ => (gq3 0 0)) | 1 => (gq11 0) | _ => fun _ => 0) [10, 9, 7, 8, 0, 1, 6, 2, 5, 3, 4] (by decide +kernel) rfl dX0_passWeek_127
    · have f14 : ¬ (((nI mm).toInt : Int) = 0) := fun h => c7 (Int32.toInt_inj.mp h)
      refine lv_aload_n hx hb dX0_passWeek_26 rfl (lv_at hl 0 rfl) ?_
      refine va_get (D := G) (ci := 0) (v := .int (nI mm)) (C := RX0) (T := TX0) (N := 17) hx hb hts cm_X0_passWeek_0 hown hK hP 9 rfl rfl 6 (by decide) (hts _ (dmem (j := 0) rfl)) (fun _ h9 => h9) rfl dX0_passWeek_27 ?_
      refine lv_bipush (v := 13) hx hb dX0_passWeek_30 (by decide) ?_
      refine lv_irem hx hb dX0_passWeek_32 (by decide) ?_
      refine lv_topi (fun x15 ex15 => ?_)
      refine lv_if_ne (tgt := 55) hx hb dX0_passWeek_33 (by decide) (fun c16 => ?_) (fun c16 => ?_)
      · refine lv_iconst (v := 0) hx hb dX0_passWeek_55 (by decide) ?_
        refine lv_istore_n (lv' := [(1, .int 0), (0, .ref h0)]) hx hb dX0_passWeek_56 rfl hl (by decide) rfl (fun ls hl => ?_)
        refine lv_iload_n hx hb dX0_passWeek_57 rfl (lv_at hl 0 rfl) ?_
        refine lv_aload_n hx hb dX0_passWeek_58 rfl (lv_at hl 1 rfl) ?_
        refine va_get (D := G) (ci := 0) (v := .ref h0_2) (C := RX0) (T := TX0) (N := 17) hx hb hts cm_X0_passWeek_0 hown hK hP 9 rfl rfl 2 (by decide) (hts _ (dmem (j := 8) rfl)) (fun _ h9 => h9) rfl dX0_passWeek_59 ?_
        refine va_get (D := G) (ci := 10) (v := .int 0) (C := RX10) (T := TX10) (N := 11) hx hb hts cm_X0_passWeek_3 hown hK hP 4 rfl rfl 0 (by decide) (hts _ (dmem (j := 9) rfl)) (fun _ h9 => h9) rfl dX0_passWeek_62 ?_
        refine lv_icmp_ge (tgt := 92) hx hb dX0_passWeek_65 (by decide) (fun _ => ?_) (fun c => absurd c (by decide))
        refine lv_aload_n hx hb dX0_passWeek_92 rfl (lv_at hl 1 rfl) ?_
        refine goV (As := []) (rest := []) (wr := [(h0_0_8, .inl (cI, 40, .inl fb)), (h0_0_9, .inl (cI, 40, .inl (fun _ => 0))), (h0_1, .inr (1, [.int 0, .ref h0_1_1, .ref h0_1_2, .ref h0_1_3, .ref h0_1_4, .ref h0_1_5, .ref h0_1_6, .ref h0_1_7, .int 0, .ref h0_1_9, .ref h0_1_10, .ref h0_1_11, .int (-1), .long 0, .long 0])), (h0_2, .inr (10, [.int 0, .ref h0_2_1, .ref h0_2_2, .ref h0_2_3, .ref h0_2_4, .ref h0_2_5, .ref h0_2_6, .int 0, .ref h0_2_8, .ref h0_2_9, .ref h0_2_10])), (h0_3_0, .inl (cI, 400, .inl fp)), (h0_4, .inr (2, [.int 0, .ref h0_4_1, .ref h0_4_2, .ref h0_4_3])), (h0_4_3, .inl (cI, 20, .inl (fillU fs 0 20))), (h0_3_1, .inl (cR, 400, .inr (.inr (.inr (.inr (fun _ => none)))))), (h0_3, .inr (7, [.ref h0_3_0, .ref h0_3_1]))]) ⟨hx, hb, hml, hown, hts⟩ (c_X0_payDraws_v2 l G cI cJ cZ cD cR cT h0 h0_0 h0_0_1 h0_0_2 h0_0_3 h0_0_4 h0_0_5 h0_0_6 h0_0_7 h0_0_8 h0_0_9 h0_1 h0_2 h0_3 h0_4 h0_5 mm h0_8 (gq3 0 0) h0_15 h0_16 _ (by omega)) (cwV 0 hts gv_X0_passWeek_157_X0_payDraws_v2 rfl rfl rfl (by decide +kernel) ⟨Nat.le_of_ble_eq_true rfl, Nat.le_of_ble_eq_true rfl⟩) 9 rfl rfl rfl hKK hP hD hS hA [0, 9] [1, 2, 3, 4, 5, 6, 7, 8, 10] rfl rfl (by decide +kernel) (by decide +kernel) (by decide +kernel) rfl hl.1 rfl (lv_room (Nat.le_of_ble_eq_true rfl)) dX0_passWeek_93 ⟨Nat.le_of_ble_eq_true rfl, Nat.le_of_ble_eq_true rfl⟩ (fun v18 q17 gq17 H locs hv18 => appW (ws' := [(h0_0_8, .inl (cI, 40, .inl fb)), (h0_0_9, .inl (cI, 40, .inl (fun _ => 0))), (h0_1, .inr (1, [.int 0, .ref h0_1_1, .ref h0_1_2, .ref h0_1_3, .ref h0_1_4, .ref h0_1_5, .ref h0_1_6, .ref h0_1_7, .int 0, .ref h0_1_9, .ref h0_1_10, .ref h0_1_11, .int (-1), .long 0, .long 0])), (h0_2, .inr (10, [.int 0, .ref h0_2_1, .ref h0_2_2, .ref h0_2_3, .ref h0_2_4, .ref h0_2_5, .ref h0_2_6, .int 0, .ref h0_2_8, .ref h0_2_9, .ref h0_2_10])), (h0_3_0, .inl (cI, 400, .inl fp)), (h0_4, .inr (2, [.int 0, .ref h0_4_1, .ref h0_4_2, .ref h0_4_3])), (h0_4_3, .inl (cI, 20, .inl (fillU fs 0 20))), (h0_3_1, .inl (cR, 400, .inr (.inr (.inr (.inr (fun _ => none)))))), (h0_3, .inr (7, [.ref h0_3_0, .ref h0_3_1])), (h0_0, .inr (4, [.int 0, .ref h0_0_1, .ref h0_0_2, .ref h0_0_3, .ref h0_0_4, .ref h0_0_5, .ref h0_0_6, .ref h0_0_7, .ref h0_0_8, .ref h0_0_9])), (h0, .inr (0, [.ref h0_0, .ref h0_1, .ref h0_2, .ref h0_3, .ref h0_4, .ref h0_5, .int (nI mm), .int 0, .ref h0_8, .int 0, .int 0, .int 0, .int 0, .long 0, .int (gq3 0 0), .ref h0_15, .ref h0_16]))]) rfl (fun hP hD hS => ?_))
        obtain rfl := hv18
        refine lv_aload_n hx hb dX0_passWeek_96 rfl (lv_at hl 1 rfl) ?_
        refine va_get (D := G) (ci := 0) (v := .int 0) (C := RX0) (T := TX0) (N := 17) hx hb hts cm_X0_passWeek_0 hown hK hP 10 rfl rfl 7 (by decide) (hts _ (dmem (j := 13) rfl)) (fun _ h9 => h9) rfl dX0_passWeek_97 ?_
        refine lv_if_eq (tgt := 113) hx hb dX0_passWeek_100 (by decide) (fun _ => ?_) (fun c => absurd c (by decide))
        refine lv_aload_n hx hb dX0_passWeek_113 rfl (lv_at hl 1 rfl) ?_
        refine goV (As := []) (rest := []) (wr := [(h0_1, .inr (1, [.int 0, .ref h0_1_1, .ref h0_1_2, .ref h0_1_3, .ref h0_1_4, .ref h0_1_5, .ref h0_1_6, .ref h0_1_7, .int 0, .ref h0_1_9, .ref h0_1_10, .ref h0_1_11, .int (-1), .long 0, .long 0])), (h0_2, .inr (10, [.int 0, .ref h0_2_1, .ref h0_2_2, .ref h0_2_3, .ref h0_2_4, .ref h0_2_5, .ref h0_2_6, .int 0, .ref h0_2_8, .ref h0_2_9, .ref h0_2_10])), (h0_3_0, .inl (cI, 400, .inl fp)), (h0_4, .inr (2, [.int 0, .ref h0_4_1, .ref h0_4_2, .ref h0_4_3])), (h0_4_3, .inl (cI, 20, .inl (fillU fs 0 20))), (h0_3_1, .inl (cR, 400, .inr (.inr (.inr (.inr (fun _ => none)))))), (h0_3, .inr (7, [.ref h0_3_0, .ref h0_3_1]))]) ⟨hx, hb, hml, hown, hts⟩ (c_X0_renewBans_v2 l G cI cJ cZ cD cR cT h0 h0_0_8 fb h0_0_9 h0_0 h0_0_1 h0_0_2 h0_0_3 h0_0_4 h0_0_5 h0_0_6 h0_0_7 h0_1 h0_2 h0_3 h0_4 h0_5 mm h0_8 (gq3 0 0) h0_15 h0_16 _ (by omega)) (cwV 0 hts gv_X0_passWeek_164_X0_renewBans_v2 rfl rfl rfl (by decide +kernel) ⟨Nat.le_of_ble_eq_true rfl, Nat.le_of_ble_eq_true rfl⟩) 10 rfl rfl rfl hKK hP hD hS hA [0, 1, 9, 10] [2, 3, 4, 5, 6, 7, 8] rfl rfl (by decide +kernel) (by decide +kernel) (by decide +kernel) rfl hl.1 rfl (lv_room (Nat.le_of_ble_eq_true rfl)) dX0_passWeek_114 ⟨Nat.le_of_ble_eq_true rfl, Nat.le_of_ble_eq_true rfl⟩ (fun v20 q19 gq19 H locs hv20 => appW (ws' := [(h0_1, .inr (1, [.int 0, .ref h0_1_1, .ref h0_1_2, .ref h0_1_3, .ref h0_1_4, .ref h0_1_5, .ref h0_1_6, .ref h0_1_7, .int 0, .ref h0_1_9, .ref h0_1_10, .ref h0_1_11, .int (-1), .long 0, .long 0])), (h0_2, .inr (10, [.int 0, .ref h0_2_1, .ref h0_2_2, .ref h0_2_3, .ref h0_2_4, .ref h0_2_5, .ref h0_2_6, .int 0, .ref h0_2_8, .ref h0_2_9, .ref h0_2_10])), (h0_3_0, .inl (cI, 400, .inl fp)), (h0_4, .inr (2, [.int 0, .ref h0_4_1, .ref h0_4_2, .ref h0_4_3])), (h0_4_3, .inl (cI, 20, .inl (fillU fs 0 20))), (h0_3_1, .inl (cR, 400, .inr (.inr (.inr (.inr (fun _ => none)))))), (h0_3, .inr (7, [.ref h0_3_0, .ref h0_3_1])), (h0_0_8, .inl (cI, 40, .inl (gq19 0))), (h0_0_9, .inl (cI, 40, .inl (fun _ => 0))), (h0_0, .inr (4, [.int 0, .ref h0_0_1, .ref h0_0_2, .ref h0_0_3, .ref h0_0_4, .ref h0_0_5, .ref h0_0_6, .ref h0_0_7, .ref h0_0_8, .ref h0_0_9])), (h0, .inr (0, [.ref h0_0, .ref h0_1, .ref h0_2, .ref h0_3, .ref h0_4, .ref h0_5, .int (nI mm), .int 0, .ref h0_8, .int 0, .int 0, .int 0, .int 0, .long 0, .int (gq3 0 0), .ref h0_15, .ref h0_16]))]) rfl (fun hP hD hS => ?_))
        obtain rfl := hv20
        refine lv_aload_n hx hb dX0_passWeek_117 rfl (lv_at hl 1 rfl) ?_
        refine lv_dup hx hb dX0_passWeek_118 rfl ?_
        refine va_get (D := G) (ci := 0) (v := .int (nI mm)) (C := RX0) (T := TX0) (N := 17) hx hb hts cm_X0_passWeek_0 hown hK hP 10 rfl rfl 6 (by decide) (hts _ (dmem (j := 0) rfl)) (fun _ h9 => h9) rfl dX0_passWeek_119 ?_
        refine lv_iconst (v := 1) hx hb dX0_passWeek_122 (by decide) ?_
        refine lv_iadd hx hb dX0_passWeek_123 ?_
        refine lv_topi (fun x21 ex21 => ?_)
        obtain rfl : (nI (mm + 1)) = x21 := (ex21.trans (nI_1 mm)).symm
        refine va_put (D := G) (ci := 0) (v := .int (nI (mm + 1))) (ty := .int) (C := RX0) (T := TX0) (N := 17) hx hb hts cm_X0_passWeek_0 tyX0 tyX0_ok nmX0 hown hK hP hD hS 10 rfl rfl 6 (by decide) (hts _ (dmem (j := 0) rfl)) (fun _ h9 => h9) rfl (by decide +kernel) rfl rfl (Nat.le_of_ble_eq_true rfl) dX0_passWeek_124 (fun H locs => setW (ws' := [(h0_1, .inr (1, [.int 0, .ref h0_1_1, .ref h0_1_2, .ref h0_1_3, .ref h0_1_4, .ref h0_1_5, .ref h0_1_6, .ref h0_1_7, .int 0, .ref h0_1_9, .ref h0_1_10, .ref h0_1_11, .int (-1), .long 0, .long 0])), (h0_2, .inr (10, [.int 0, .ref h0_2_1, .ref h0_2_2, .ref h0_2_3, .ref h0_2_4, .ref h0_2_5, .ref h0_2_6, .int 0, .ref h0_2_8, .ref h0_2_9, .ref h0_2_10])), (h0_3_0, .inl (cI, 400, .inl fp)), (h0_4, .inr (2, [.int 0, .ref h0_4_1, .ref h0_4_2, .ref h0_4_3])), (h0_4_3, .inl (cI, 20, .inl (fillU fs 0 20))), (h0_3_1, .inl (cR, 400, .inr (.inr (.inr (.inr (fun _ => none)))))), (h0_3, .inr (7, [.ref h0_3_0, .ref h0_3_1])), (h0_0_8, .inl (cI, 40, .inl (gq19 0))), (h0_0_9, .inl (cI, 40, .inl (fun _ => 0))), (h0_0, .inr (4, [.int 0, .ref h0_0_1, .ref h0_0_2, .ref h0_0_3, .ref h0_0_4, .ref h0_0_5, .ref h0_0_6, .ref h0_0_7, .ref h0_0_8, .ref h0_0_9])), (h0, .inr (0, [.ref h0_0, .ref h0_1, .ref h0_2, .ref h0_3, .ref h0_4, .ref h0_5, .int (nI (mm + 1)), .int 0, .ref h0_8, .int 0, .int 0, .int 0, .int 0, .long 0, .int (gq3 0 0), .ref h0_15, .ref h0_16]))]) rfl (fun hP hD hS => ?_))
        exact retV hx hb hr hlocks rfl hP hD hS (fun _ => 0) (fun k => match k with | 0 => (fun _ => (gq3 0 0)) | 1 => (gq19 0) | _ => fun _ => 0) [10, 9, 7, 8, 0, 1, 6, 2, 5, 3, 4] (by decide +kernel) rfl dX0_passWeek_127
      · refine lv_aload_n hx hb dX0_passWeek_36 rfl (lv_at hl 0 rfl) ?_
        refine goV (As := []) (rest := []) (wr := [(h0_0, .inr (4, [.int 0, .ref h0_0_1, .ref h0_0_2, .ref h0_0_3, .ref h0_0_4, .ref h0_0_5, .ref h0_0_6, .ref h0_0_7, .ref h0_0_8, .ref h0_0_9])), (h0_0_8, .inl (cI, 40, .inl fb)), (h0_0_9, .inl (cI, 40, .inl (fun _ => 0))), (h0_2, .inr (10, [.int 0, .ref h0_2_1, .ref h0_2_2, .ref h0_2_3, .ref h0_2_4, .ref h0_2_5, .ref h0_2_6, .int 0, .ref h0_2_8, .ref h0_2_9, .ref h0_2_10])), (h0_3_0, .inl (cI, 400, .inl fp)), (h0_4, .inr (2, [.int 0, .ref h0_4_1, .ref h0_4_2, .ref h0_4_3])), (h0_4_3, .inl (cI, 20, .inl (fillU fs 0 20))), (h0_3_1, .inl (cR, 400, .inr (.inr (.inr (.inr (fun _ => none)))))), (h0_3, .inr (7, [.ref h0_3_0, .ref h0_3_1]))]) ⟨hx, hb, hml, hown, hts⟩ (c_X0_collectRents_v1 l G cI cJ cZ cD cR cT h0 h0_1 h0_1_1 h0_1_2 h0_1_3 h0_1_4 h0_1_5 h0_1_6 h0_1_7 h0_1_9 h0_1_10 h0_1_11 h0_0 h0_2 h0_3 h0_4 h0_5 mm h0_8 (gq3 0 0) h0_15 h0_16 _ (by omega)) (cwV 0 hts gv_X0_passWeek_139_X0_collectRents_v1 rfl rfl rfl (by decide +kernel) ⟨Nat.le_of_ble_eq_true rfl, Nat.le_of_ble_eq_true rfl⟩) 9 rfl rfl rfl hKK hP hD hS hA [3, 9] [0, 1, 2, 4, 5, 6, 7, 8, 10] rfl rfl (by decide +kernel) (by decide +kernel) (by decide +kernel) rfl hl.1 rfl (lv_room (Nat.le_of_ble_eq_true rfl)) dX0_passWeek_37 ⟨Nat.le_of_ble_eq_true rfl, Nat.le_of_ble_eq_true rfl⟩ (fun v23 q22 gq22 H locs hv23 => appW (ws' := [(h0_0, .inr (4, [.int 0, .ref h0_0_1, .ref h0_0_2, .ref h0_0_3, .ref h0_0_4, .ref h0_0_5, .ref h0_0_6, .ref h0_0_7, .ref h0_0_8, .ref h0_0_9])), (h0_0_8, .inl (cI, 40, .inl fb)), (h0_0_9, .inl (cI, 40, .inl (fun _ => 0))), (h0_2, .inr (10, [.int 0, .ref h0_2_1, .ref h0_2_2, .ref h0_2_3, .ref h0_2_4, .ref h0_2_5, .ref h0_2_6, .int 0, .ref h0_2_8, .ref h0_2_9, .ref h0_2_10])), (h0_3_0, .inl (cI, 400, .inl fp)), (h0_4, .inr (2, [.int 0, .ref h0_4_1, .ref h0_4_2, .ref h0_4_3])), (h0_4_3, .inl (cI, 20, .inl (fillU fs 0 20))), (h0_3_1, .inl (cR, 400, .inr (.inr (.inr (.inr (fun _ => none)))))), (h0_3, .inr (7, [.ref h0_3_0, .ref h0_3_1])), (h0_1, .inr (1, [.int 0, .ref h0_1_1, .ref h0_1_2, .ref h0_1_3, .ref h0_1_4, .ref h0_1_5, .ref h0_1_6, .ref h0_1_7, .int 0, .ref h0_1_9, .ref h0_1_10, .ref h0_1_11, .int (-1), .long 0, .long 0])), (h0, .inr (0, [.ref h0_0, .ref h0_1, .ref h0_2, .ref h0_3, .ref h0_4, .ref h0_5, .int (nI mm), .int 0, .ref h0_8, .int 0, .int 0, .int 0, .int 0, .long 0, .int (gq3 0 0), .ref h0_15, .ref h0_16]))]) rfl (fun hP hD hS => ?_))
        obtain rfl := hv23
        refine lv_aload_n hx hb dX0_passWeek_40 rfl (lv_at hl 0 rfl) ?_
        refine goV (As := []) (rest := []) (wr := [(h0_0, .inr (4, [.int 0, .ref h0_0_1, .ref h0_0_2, .ref h0_0_3, .ref h0_0_4, .ref h0_0_5, .ref h0_0_6, .ref h0_0_7, .ref h0_0_8, .ref h0_0_9])), (h0_0_8, .inl (cI, 40, .inl fb)), (h0_0_9, .inl (cI, 40, .inl (fun _ => 0))), (h0_2, .inr (10, [.int 0, .ref h0_2_1, .ref h0_2_2, .ref h0_2_3, .ref h0_2_4, .ref h0_2_5, .ref h0_2_6, .int 0, .ref h0_2_8, .ref h0_2_9, .ref h0_2_10])), (h0_3_0, .inl (cI, 400, .inl fp)), (h0_4, .inr (2, [.int 0, .ref h0_4_1, .ref h0_4_2, .ref h0_4_3])), (h0_4_3, .inl (cI, 20, .inl (fillU fs 0 20))), (h0_3_1, .inl (cR, 400, .inr (.inr (.inr (.inr (fun _ => none)))))), (h0_3, .inr (7, [.ref h0_3_0, .ref h0_3_1]))]) ⟨hx, hb, hml, hown, hts⟩ (c_X0_payMortgages_v1 l G cI cJ cZ cD cR cT h0 h0_1 h0_1_1 h0_1_2 h0_1_3 h0_1_4 h0_1_5 h0_1_6 h0_1_7 h0_1_9 h0_1_10 h0_1_11 h0_0 h0_2 h0_3 h0_4 h0_5 mm h0_8 (gq3 0 0) h0_15 h0_16 _ (by omega)) (cwV 0 hts gv_X0_passWeek_142_X0_payMortgages_v1 rfl rfl rfl (by decide +kernel) ⟨Nat.le_of_ble_eq_true rfl, Nat.le_of_ble_eq_true rfl⟩) 10 rfl rfl rfl hKK hP hD hS hA [9, 10] [0, 1, 2, 3, 4, 5, 6, 7, 8] rfl rfl (by decide +kernel) (by decide +kernel) (by decide +kernel) rfl hl.1 rfl (lv_room (Nat.le_of_ble_eq_true rfl)) dX0_passWeek_41 ⟨Nat.le_of_ble_eq_true rfl, Nat.le_of_ble_eq_true rfl⟩ (fun v25 q24 gq24 H locs hv25 => appW (ws' := [(h0_0, .inr (4, [.int 0, .ref h0_0_1, .ref h0_0_2, .ref h0_0_3, .ref h0_0_4, .ref h0_0_5, .ref h0_0_6, .ref h0_0_7, .ref h0_0_8, .ref h0_0_9])), (h0_0_8, .inl (cI, 40, .inl fb)), (h0_0_9, .inl (cI, 40, .inl (fun _ => 0))), (h0_2, .inr (10, [.int 0, .ref h0_2_1, .ref h0_2_2, .ref h0_2_3, .ref h0_2_4, .ref h0_2_5, .ref h0_2_6, .int 0, .ref h0_2_8, .ref h0_2_9, .ref h0_2_10])), (h0_3_0, .inl (cI, 400, .inl fp)), (h0_4, .inr (2, [.int 0, .ref h0_4_1, .ref h0_4_2, .ref h0_4_3])), (h0_4_3, .inl (cI, 20, .inl (fillU fs 0 20))), (h0_3_1, .inl (cR, 400, .inr (.inr (.inr (.inr (fun _ => none)))))), (h0_3, .inr (7, [.ref h0_3_0, .ref h0_3_1])), (h0_1, .inr (1, [.int 0, .ref h0_1_1, .ref h0_1_2, .ref h0_1_3, .ref h0_1_4, .ref h0_1_5, .ref h0_1_6, .ref h0_1_7, .int 0, .ref h0_1_9, .ref h0_1_10, .ref h0_1_11, .int (-1), .long 0, .long 0])), (h0, .inr (0, [.ref h0_0, .ref h0_1, .ref h0_2, .ref h0_3, .ref h0_4, .ref h0_5, .int (nI mm), .int 0, .ref h0_8, .int 0, .int 0, .int 0, .int 0, .long 0, .int (gq3 0 0), .ref h0_15, .ref h0_16]))]) rfl (fun hP hD hS => ?_))
        obtain rfl := hv25
        refine lv_aload_n hx hb dX0_passWeek_44 rfl (lv_at hl 0 rfl) ?_
        refine va_get (D := G) (ci := 0) (v := .int 0) (C := RX0) (T := TX0) (N := 17) hx hb hts cm_X0_passWeek_0 hown hK hP 10 rfl rfl 9 (by decide) (hts _ (dmem (j := 23) rfl)) (fun _ h9 => h9) rfl dX0_passWeek_45 ?_
        refine lv_if_eq (tgt := 55) hx hb dX0_passWeek_48 (by decide) (fun _ => ?_) (fun c => absurd c (by decide))
        refine lv_iconst (v := 0) hx hb dX0_passWeek_55 (by decide) ?_
        refine lv_istore_n (lv' := [(1, .int 0), (0, .ref h0)]) hx hb dX0_passWeek_56 rfl hl (by decide) rfl (fun ls hl => ?_)
        refine lv_iload_n hx hb dX0_passWeek_57 rfl (lv_at hl 0 rfl) ?_
        refine lv_aload_n hx hb dX0_passWeek_58 rfl (lv_at hl 1 rfl) ?_
        refine va_get (D := G) (ci := 0) (v := .ref h0_2) (C := RX0) (T := TX0) (N := 17) hx hb hts cm_X0_passWeek_0 hown hK hP 10 rfl rfl 2 (by decide) (hts _ (dmem (j := 8) rfl)) (fun _ h9 => h9) rfl dX0_passWeek_59 ?_
        refine va_get (D := G) (ci := 10) (v := .int 0) (C := RX10) (T := TX10) (N := 11) hx hb hts cm_X0_passWeek_3 hown hK hP 3 rfl rfl 0 (by decide) (hts _ (dmem (j := 9) rfl)) (fun _ h9 => h9) rfl dX0_passWeek_62 ?_
        refine lv_icmp_ge (tgt := 92) hx hb dX0_passWeek_65 (by decide) (fun _ => ?_) (fun c => absurd c (by decide))
        refine lv_aload_n hx hb dX0_passWeek_92 rfl (lv_at hl 1 rfl) ?_
        refine goV (As := []) (rest := []) (wr := [(h0_0_8, .inl (cI, 40, .inl fb)), (h0_0_9, .inl (cI, 40, .inl (fun _ => 0))), (h0_2, .inr (10, [.int 0, .ref h0_2_1, .ref h0_2_2, .ref h0_2_3, .ref h0_2_4, .ref h0_2_5, .ref h0_2_6, .int 0, .ref h0_2_8, .ref h0_2_9, .ref h0_2_10])), (h0_3_0, .inl (cI, 400, .inl fp)), (h0_4, .inr (2, [.int 0, .ref h0_4_1, .ref h0_4_2, .ref h0_4_3])), (h0_4_3, .inl (cI, 20, .inl (fillU fs 0 20))), (h0_3_1, .inl (cR, 400, .inr (.inr (.inr (.inr (fun _ => none)))))), (h0_3, .inr (7, [.ref h0_3_0, .ref h0_3_1])), (h0_1, .inr (1, [.int 0, .ref h0_1_1, .ref h0_1_2, .ref h0_1_3, .ref h0_1_4, .ref h0_1_5, .ref h0_1_6, .ref h0_1_7, .int 0, .ref h0_1_9, .ref h0_1_10, .ref h0_1_11, .int (-1), .long 0, .long 0]))]) ⟨hx, hb, hml, hown, hts⟩ (c_X0_payDraws_v2 l G cI cJ cZ cD cR cT h0 h0_0 h0_0_1 h0_0_2 h0_0_3 h0_0_4 h0_0_5 h0_0_6 h0_0_7 h0_0_8 h0_0_9 h0_1 h0_2 h0_3 h0_4 h0_5 mm h0_8 (gq3 0 0) h0_15 h0_16 _ (by omega)) (cwV 0 hts gv_X0_passWeek_157_X0_payDraws_v2 rfl rfl rfl (by decide +kernel) ⟨Nat.le_of_ble_eq_true rfl, Nat.le_of_ble_eq_true rfl⟩) 10 rfl rfl rfl hKK hP hD hS hA [0, 10] [1, 2, 3, 4, 5, 6, 7, 8, 9] rfl rfl (by decide +kernel) (by decide +kernel) (by decide +kernel) rfl hl.1 rfl (lv_room (Nat.le_of_ble_eq_true rfl)) dX0_passWeek_93 ⟨Nat.le_of_ble_eq_true rfl, Nat.le_of_ble_eq_true rfl⟩ (fun v27 q26 gq26 H locs hv27 => appW (ws' := [(h0_0_8, .inl (cI, 40, .inl fb)), (h0_0_9, .inl (cI, 40, .inl (fun _ => 0))), (h0_2, .inr (10, [.int 0, .ref h0_2_1, .ref h0_2_2, .ref h0_2_3, .ref h0_2_4, .ref h0_2_5, .ref h0_2_6, .int 0, .ref h0_2_8, .ref h0_2_9, .ref h0_2_10])), (h0_3_0, .inl (cI, 400, .inl fp)), (h0_4, .inr (2, [.int 0, .ref h0_4_1, .ref h0_4_2, .ref h0_4_3])), (h0_4_3, .inl (cI, 20, .inl (fillU fs 0 20))), (h0_3_1, .inl (cR, 400, .inr (.inr (.inr (.inr (fun _ => none)))))), (h0_3, .inr (7, [.ref h0_3_0, .ref h0_3_1])), (h0_1, .inr (1, [.int 0, .ref h0_1_1, .ref h0_1_2, .ref h0_1_3, .ref h0_1_4, .ref h0_1_5, .ref h0_1_6, .ref h0_1_7, .int 0, .ref h0_1_9, .ref h0_1_10, .ref h0_1_11, .int (-1), .long 0, .long 0])), (h0_0, .inr (4, [.int 0, .ref h0_0_1, .ref h0_0_2, .ref h0_0_3, .ref h0_0_4, .ref h0_0_5, .ref h0_0_6, .ref h0_0_7, .ref h0_0_8, .ref h0_0_9])), (h0, .inr (0, [.ref h0_0, .ref h0_1, .ref h0_2, .ref h0_3, .ref h0_4, .ref h0_5, .int (nI mm), .int 0, .ref h0_8, .int 0, .int 0, .int 0, .int 0, .long 0, .int (gq3 0 0), .ref h0_15, .ref h0_16]))]) rfl (fun hP hD hS => ?_))
        obtain rfl := hv27
        refine lv_aload_n hx hb dX0_passWeek_96 rfl (lv_at hl 1 rfl) ?_
        refine va_get (D := G) (ci := 0) (v := .int 0) (C := RX0) (T := TX0) (N := 17) hx hb hts cm_X0_passWeek_0 hown hK hP 10 rfl rfl 7 (by decide) (hts _ (dmem (j := 13) rfl)) (fun _ h9 => h9) rfl dX0_passWeek_97 ?_
        refine lv_if_eq (tgt := 113) hx hb dX0_passWeek_100 (by decide) (fun _ => ?_) (fun c => absurd c (by decide))
        refine lv_aload_n hx hb dX0_passWeek_113 rfl (lv_at hl 1 rfl) ?_
        refine goV (As := []) (rest := []) (wr := [(h0_2, .inr (10, [.int 0, .ref h0_2_1, .ref h0_2_2, .ref h0_2_3, .ref h0_2_4, .ref h0_2_5, .ref h0_2_6, .int 0, .ref h0_2_8, .ref h0_2_9, .ref h0_2_10])), (h0_3_0, .inl (cI, 400, .inl fp)), (h0_4, .inr (2, [.int 0, .ref h0_4_1, .ref h0_4_2, .ref h0_4_3])), (h0_4_3, .inl (cI, 20, .inl (fillU fs 0 20))), (h0_3_1, .inl (cR, 400, .inr (.inr (.inr (.inr (fun _ => none)))))), (h0_3, .inr (7, [.ref h0_3_0, .ref h0_3_1])), (h0_1, .inr (1, [.int 0, .ref h0_1_1, .ref h0_1_2, .ref h0_1_3, .ref h0_1_4, .ref h0_1_5, .ref h0_1_6, .ref h0_1_7, .int 0, .ref h0_1_9, .ref h0_1_10, .ref h0_1_11, .int (-1), .long 0, .long 0]))]) ⟨hx, hb, hml, hown, hts⟩ (c_X0_renewBans_v2 l G cI cJ cZ cD cR cT h0 h0_0_8 fb h0_0_9 h0_0 h0_0_1 h0_0_2 h0_0_3 h0_0_4 h0_0_5 h0_0_6 h0_0_7 h0_1 h0_2 h0_3 h0_4 h0_5 mm h0_8 (gq3 0 0) h0_15 h0_16 _ (by omega)) (cwV 0 hts gv_X0_passWeek_164_X0_renewBans_v2 rfl rfl rfl (by decide +kernel) ⟨Nat.le_of_ble_eq_true rfl, Nat.le_of_ble_eq_true rfl⟩) 10 rfl rfl rfl hKK hP hD hS hA [0, 1, 9, 10] [2, 3, 4, 5, 6, 7, 8] rfl rfl (by decide +kernel) (by decide +kernel) (by decide +kernel) rfl hl.1 rfl (lv_room (Nat.le_of_ble_eq_true rfl)) dX0_passWeek_114 ⟨Nat.le_of_ble_eq_true rfl, Nat.le_of_ble_eq_true rfl⟩ (fun v29 q28 gq28 H locs hv29 => appW (ws' := [(h0_2, .inr (10, [.int 0, .ref h0_2_1, .ref h0_2_2, .ref h0_2_3, .ref h0_2_4, .ref h0_2_5, .ref h0_2_6, .int 0, .ref h0_2_8, .ref h0_2_9, .ref h0_2_10])), (h0_3_0, .inl (cI, 400, .inl fp)), (h0_4, .inr (2, [.int 0, .ref h0_4_1, .ref h0_4_2, .ref h0_4_3])), (h0_4_3, .inl (cI, 20, .inl (fillU fs 0 20))), (h0_3_1, .inl (cR, 400, .inr (.inr (.inr (.inr (fun _ => none)))))), (h0_3, .inr (7, [.ref h0_3_0, .ref h0_3_1])), (h0_1, .inr (1, [.int 0, .ref h0_1_1, .ref h0_1_2, .ref h0_1_3, .ref h0_1_4, .ref h0_1_5, .ref h0_1_6, .ref h0_1_7, .int 0, .ref h0_1_9, .ref h0_1_10, .ref h0_1_11, .int (-1), .long 0, .long 0])), (h0_0_8, .inl (cI, 40, .inl (gq28 0))), (h0_0_9, .inl (cI, 40, .inl (fun _ => 0))), (h0_0, .inr (4, [.int 0, .ref h0_0_1, .ref h0_0_2, .ref h0_0_3, .ref h0_0_4, .ref h0_0_5, .ref h0_0_6, .ref h0_0_7, .ref h0_0_8, .ref h0_0_9])), (h0, .inr (0, [.ref h0_0, .ref h0_1, .ref h0_2, .ref h0_3, .ref h0_4, .ref h0_5, .int (nI mm), .int 0, .ref h0_8, .int 0, .int 0, .int 0, .int 0, .long 0, .int (gq3 0 0), .ref h0_15, .ref h0_16]))]) rfl (fun hP hD hS => ?_))
        obtain rfl := hv29
        refine lv_aload_n hx hb dX0_passWeek_117 rfl (lv_at hl 1 rfl) ?_
        refine lv_dup hx hb dX0_passWeek_118 rfl ?_
        refine va_get (D := G) (ci := 0) (v := .int (nI mm)) (C := RX0) (T := TX0) (N := 17) hx hb hts cm_X0_passWeek_0 hown hK hP 10 rfl rfl 6 (by decide) (hts _ (dmem (j := 0) rfl)) (fun _ h9 => h9) rfl dX0_passWeek_119 ?_
        refine lv_iconst (v := 1) hx hb dX0_passWeek_122 (by decide) ?_
        refine lv_iadd hx hb dX0_passWeek_123 ?_
        refine lv_topi (fun x30 ex30 => ?_)
        obtain rfl : (nI (mm + 1)) = x30 := (ex30.trans (nI_1 mm)).symm
        refine va_put (D := G) (ci := 0) (v := .int (nI (mm + 1))) (ty := .int) (C := RX0) (T := TX0) (N := 17) hx hb hts cm_X0_passWeek_0 tyX0 tyX0_ok nmX0 hown hK hP hD hS 10 rfl rfl 6 (by decide) (hts _ (dmem (j := 0) rfl)) (fun _ h9 => h9) rfl (by decide +kernel) rfl rfl (Nat.le_of_ble_eq_true rfl) dX0_passWeek_124 (fun H locs => setW (ws' := [(h0_2, .inr (10, [.int 0, .ref h0_2_1, .ref h0_2_2, .ref h0_2_3, .ref h0_2_4, .ref h0_2_5, .ref h0_2_6, .int 0, .ref h0_2_8, .ref h0_2_9, .ref h0_2_10])), (h0_3_0, .inl (cI, 400, .inl fp)), (h0_4, .inr (2, [.int 0, .ref h0_4_1, .ref h0_4_2, .ref h0_4_3])), (h0_4_3, .inl (cI, 20, .inl (fillU fs 0 20))), (h0_3_1, .inl (cR, 400, .inr (.inr (.inr (.inr (fun _ => none)))))), (h0_3, .inr (7, [.ref h0_3_0, .ref h0_3_1])), (h0_1, .inr (1, [.int 0, .ref h0_1_1, .ref h0_1_2, .ref h0_1_3, .ref h0_1_4, .ref h0_1_5, .ref h0_1_6, .ref h0_1_7, .int 0, .ref h0_1_9, .ref h0_1_10, .ref h0_1_11, .int (-1), .long 0, .long 0])), (h0_0_8, .inl (cI, 40, .inl (gq28 0))), (h0_0_9, .inl (cI, 40, .inl (fun _ => 0))), (h0_0, .inr (4, [.int 0, .ref h0_0_1, .ref h0_0_2, .ref h0_0_3, .ref h0_0_4, .ref h0_0_5, .ref h0_0_6, .ref h0_0_7, .ref h0_0_8, .ref h0_0_9])), (h0, .inr (0, [.ref h0_0, .ref h0_1, .ref h0_2, .ref h0_3, .ref h0_4, .ref h0_5, .int (nI (mm + 1)), .int 0, .ref h0_8, .int 0, .int 0, .int 0, .int 0, .long 0, .int (gq3 0 0), .ref h0_15, .ref h0_16]))]) rfl (fun hP hD hS => ?_))
        exact retV hx hb hr hlocks rfl hP hD hS (fun _ => 0) (fun k => match k with | 0 => (fun _ => (gq3 0 0)) | 1 => (gq28 0) | _ => fun _ => 0) [10, 9, 7, 8, 6, 0, 5, 1, 4, 2, 3] (by decide +kernel) rfl dX0_passWeek_127
  · have f31 : ¬ (((nI mm).toInt : Int) < 399) := fun h => c1 (Int32.lt_iff_toInt_lt.mpr h)
    exfalso; omega
def d_X11_go : List Cond := [Cond.methodLink RX11 273 yX11_canGo, Cond.instanceMethod yX11_canGo, Cond.selects RX11 yX11_canGo yX11_canGo, Cond.initialized RX11, Cond.fieldLink RX11 12 "NoRent" "county" "LNoRent$County;", Cond.fieldLink RX11 255 "NoRent$County" "now" "I", Cond.methodLink RX11 77 yX11_accept, Cond.instanceMethod yX11_accept, Cond.selects RX11 yX11_accept yX11_accept, Cond.methodLink RX11 276 yX0_passWeek, Cond.instanceMethod yX0_passWeek, Cond.selects RX0 yX0_passWeek yX0_passWeek, Cond.initialized RX0, Cond.methodLink RX11 59 yX11_refuse, Cond.instanceMethod yX11_refuse, Cond.selects RX11 yX11_refuse yX11_refuse]
def v_X11_go : List Cond := Cond.code yX11_go cX11_go 3 (some .int) :: (d_X11_go ++ (v_X11_canGo ++ (wsX110 ++ (wsX00 ++ (v_X11_accept ++ (v_X0_passWeek ++ (v_X11_refuse ++ ([] : List Cond))))))))
theorem cm_X11_go_0 : ∀ w ∈ v_X11_canGo, w ∈ v_X11_go := fun _ h => List.mem_cons_of_mem _ (List.mem_append_right _ (List.mem_append_left _ h))
theorem cm_X11_go_1 : ∀ w ∈ wsX110, w ∈ v_X11_go := fun _ h => List.mem_cons_of_mem _ (List.mem_append_right _ (List.mem_append_right _ (List.mem_append_left _ h)))
theorem cm_X11_go_2 : ∀ w ∈ wsX00, w ∈ v_X11_go := fun _ h => List.mem_cons_of_mem _ (List.mem_append_right _ (List.mem_append_right _ (List.mem_append_right _ (List.mem_append_left _ h))))
theorem cm_X11_go_3 : ∀ w ∈ v_X11_accept, w ∈ v_X11_go := fun _ h => List.mem_cons_of_mem _ (List.mem_append_right _ (List.mem_append_right _ (List.mem_append_right _ (List.mem_append_right _ (List.mem_append_left _ h)))))
theorem cm_X11_go_4 : ∀ w ∈ v_X0_passWeek, w ∈ v_X11_go := fun _ h => List.mem_cons_of_mem _ (List.mem_append_right _ (List.mem_append_right _ (List.mem_append_right _ (List.mem_append_right _ (List.mem_append_right _ (List.mem_append_left _ h))))))
theorem cm_X11_go_5 : ∀ w ∈ v_X11_refuse, w ∈ v_X11_go := fun _ h => List.mem_cons_of_mem _ (List.mem_append_right _ (List.mem_append_right _ (List.mem_append_right _ (List.mem_append_right _ (List.mem_append_right _ (List.mem_append_right _ (List.mem_append_left _ h)))))))
theorem gd_X11_go : Gd v_X11_go := gd_mk (by decide +kernel) (gd_app gd_X11_canGo (gd_app gd_X11 (gd_app gd_X0 (gd_app gd_X11_accept (gd_app gd_X0_passWeek (gd_app gd_X11_refuse gd_nil))))))
set_option maxRecDepth 20000 in
theorem gv_X11_go_273_X11_canGo : GoodIn v_X11_go (wsV RX11 273 RX11 yX11_canGo v_X11_canGo) := goodIn_app (goodIn_of _ (by decide +kernel)) (gi cm_X11_go_0 gd_X11_canGo)
set_option maxRecDepth 20000 in
theorem gv_X11_go_77_X11_accept : GoodIn v_X11_go (wsV RX11 77 RX11 yX11_accept v_X11_accept) := goodIn_app (goodIn_of _ (by decide +kernel)) (gi cm_X11_go_3 gd_X11_accept)
set_option maxRecDepth 20000 in
theorem gv_X11_go_276_X0_passWeek : GoodIn v_X11_go (wsV RX11 276 RX0 yX0_passWeek v_X0_passWeek) := goodIn_app (goodIn_of _ (by decide +kernel)) (gi cm_X11_go_4 gd_X0_passWeek)
set_option maxRecDepth 20000 in
theorem gv_X11_go_59_X11_refuse : GoodIn v_X11_go (wsV RX11 59 RX11 yX11_refuse v_X11_refuse) := goodIn_app (goodIn_of _ (by decide +kernel)) (gi cm_X11_go_5 gd_X11_refuse)
set_option maxHeartbeats 4000000 in
set_option maxRecDepth 100000 in
theorem c_X11_go (l : Launch) (G : va_G) (cI cJ cZ cD cR cT : ClassId) (h0 : Nat) (u1 : Int32) (h0_0 : Nat) (h0_1 : Nat) (h0_2 : Nat) (h0_3 : Nat) (h0_6 : Nat) (h0_7 : Nat) (h0_8 : Nat) (h0_10 : Nat) (h0_11 : Nat) (h0_13 : Nat) (h0_0_0 : Nat) (h0_0_1 : Nat) (h0_0_2 : Nat) (h0_0_3 : Nat) (h0_0_4 : Nat) (h0_0_5 : Nat) (h0_0_8 : Nat) (h0_0_15 : Nat) (h0_0_16 : Nat) (h0_0_0_1 : Nat) (h0_0_0_2 : Nat) (h0_0_0_3 : Nat) (h0_0_0_4 : Nat) (h0_0_0_5 : Nat) (h0_0_0_6 : Nat) (h0_0_0_7 : Nat) (h0_0_0_8 : Nat) (h0_0_0_9 : Nat) (h0_0_1_1 : Nat) (h0_0_1_2 : Nat) (h0_0_1_3 : Nat) (h0_0_1_4 : Nat) (h0_0_1_5 : Nat) (h0_0_1_6 : Nat) (h0_0_1_7 : Nat) (h0_0_1_9 : Nat) (h0_0_1_10 : Nat) (h0_0_1_11 : Nat) (h0_0_2_1 : Nat) (h0_0_2_2 : Nat) (h0_0_2_3 : Nat) (h0_0_2_4 : Nat) (h0_0_2_5 : Nat) (h0_0_2_6 : Nat) (h0_0_2_8 : Nat) (h0_0_2_9 : Nat) (h0_0_2_10 : Nat) (h0_0_3_0 : Nat) (h0_0_3_1 : Nat) (h0_0_4_1 : Nat) (h0_0_4_2 : Nat) (h0_0_4_3 : Nat) (sz : Nat) : Met l yX11_go v_X11_go ({ frames := 5, cells := 0, slots := 0, locals := 129 }) (va_Pc [.ref h0, .int u1] (PreW G (tys6 cI cJ cZ cD cR cT) [(h0, .inr (11, [.ref h0_0, .ref h0_1, .ref h0_2, .ref h0_3, .int 0, .int 0, .ref h0_6, .ref h0_7, .ref h0_8, .int 0, .ref h0_10, .ref h0_11, .int 0, .ref h0_13, .int 0, .int 0])), (h0_0, .inr (0, [.ref h0_0_0, .ref h0_0_1, .ref h0_0_2, .ref h0_0_3, .ref h0_0_4, .ref h0_0_5, .int 0, .int 0, .ref h0_0_8, .int 0, .int 0, .int 0, .int 0, .long 0, .int 0, .ref h0_0_15, .ref h0_0_16])), (h0_0_0, .inr (4, [.int 0, .ref h0_0_0_1, .ref h0_0_0_2, .ref h0_0_0_3, .ref h0_0_0_4, .ref h0_0_0_5, .ref h0_0_0_6, .ref h0_0_0_7, .ref h0_0_0_8, .ref h0_0_0_9])), (h0_0_0_8, .inl (cI, 40, .inl (fun _ => 0))), (h0_0_0_9, .inl (cI, 40, .inl (fun _ => 0))), (h0_0_1, .inr (1, [.int 0, .ref h0_0_1_1, .ref h0_0_1_2, .ref h0_0_1_3, .ref h0_0_1_4, .ref h0_0_1_5, .ref h0_0_1_6, .ref h0_0_1_7, .int 0, .ref h0_0_1_9, .ref h0_0_1_10, .ref h0_0_1_11, .int (-1), .long 0, .long 0])), (h0_0_2, .inr (10, [.int 0, .ref h0_0_2_1, .ref h0_0_2_2, .ref h0_0_2_3, .ref h0_0_2_4, .ref h0_0_2_5, .ref h0_0_2_6, .int 0, .ref h0_0_2_8, .ref h0_0_2_9, .ref h0_0_2_10])), (h0_0_3, .inr (7, [.ref h0_0_3_0, .ref h0_0_3_1])), (h0_0_3_0, .inl (cI, 400, .inl (fillU (fun _ => 0) (-1) 400))), (h0_0_3_1, .inl (cR, 400, .inr (.inr (.inr (.inr (fun _ => none)))))), (h0_0_4, .inr (2, [.int 0, .ref h0_0_4_1, .ref h0_0_4_2, .ref h0_0_4_3])), (h0_0_4_3, .inl (cI, 20, .inl (fun _ => 0)))] sz)) (QW (RI (fun r => r = F_go u1)) G (va_A [(h0, .inr (11, [.ref h0_0, .ref h0_1, .ref h0_2, .ref h0_3, .int 0, .int 0, .ref h0_6, .ref h0_7, .ref h0_8, .int 0, .ref h0_10, .ref h0_11, .int 0, .ref h0_13, .int 0, .int 0])), (h0_0, .inr (0, [.ref h0_0_0, .ref h0_0_1, .ref h0_0_2, .ref h0_0_3, .ref h0_0_4, .ref h0_0_5, .int 0, .int 0, .ref h0_0_8, .int 0, .int 0, .int 0, .int 0, .long 0, .int 0, .ref h0_0_15, .ref h0_0_16])), (h0_0_0, .inr (4, [.int 0, .ref h0_0_0_1, .ref h0_0_0_2, .ref h0_0_0_3, .ref h0_0_0_4, .ref h0_0_0_5, .ref h0_0_0_6, .ref h0_0_0_7, .ref h0_0_0_8, .ref h0_0_0_9])), (h0_0_0_8, .inl (cI, 40, .inl (fun _ => 0))), (h0_0_0_9, .inl (cI, 40, .inl (fun _ => 0))), (h0_0_1, .inr (1, [.int 0, .ref h0_0_1_1, .ref h0_0_1_2, .ref h0_0_1_3, .ref h0_0_1_4, .ref h0_0_1_5, .ref h0_0_1_6, .ref h0_0_1_7, .int 0, .ref h0_0_1_9, .ref h0_0_1_10, .ref h0_0_1_11, .int (-1), .long 0, .long 0])), (h0_0_2, .inr (10, [.int 0, .ref h0_0_2_1, .ref h0_0_2_2, .ref h0_0_2_3, .ref h0_0_2_4, .ref h0_0_2_5, .ref h0_0_2_6, .int 0, .ref h0_0_2_8, .ref h0_0_2_9, .ref h0_0_2_10])), (h0_0_3, .inr (7, [.ref h0_0_3_0, .ref h0_0_3_1])), (h0_0_3_0, .inl (cI, 400, .inl (fillU (fun _ => 0) (-1) 400))), (h0_0_3_1, .inl (cR, 400, .inr (.inr (.inr (.inr (fun _ => none)))))), (h0_0_4, .inr (2, [.int 0, .ref h0_0_4_1, .ref h0_0_4_2, .ref h0_0_4_3])), (h0_0_4_3, .inl (cI, 20, .inl (fun _ => 0)))] sz) (fun q g => [])) 0 0 (va_A [(h0, .inr (11, [.ref h0_0, .ref h0_1, .ref h0_2, .ref h0_3, .int 0, .int 0, .ref h0_6, .ref h0_7, .ref h0_8, .int 0, .ref h0_10, .ref h0_11, .int 0, .ref h0_13, .int 0, .int 0])), (h0_0, .inr (0, [.ref h0_0_0, .ref h0_0_1, .ref h0_0_2, .ref h0_0_3, .ref h0_0_4, .ref h0_0_5, .int 0, .int 0, .ref h0_0_8, .int 0, .int 0, .int 0, .int 0, .long 0, .int 0, .ref h0_0_15, .ref h0_0_16])), (h0_0_0, .inr (4, [.int 0, .ref h0_0_0_1, .ref h0_0_0_2, .ref h0_0_0_3, .ref h0_0_0_4, .ref h0_0_0_5, .ref h0_0_0_6, .ref h0_0_0_7, .ref h0_0_0_8, .ref h0_0_0_9])), (h0_0_0_8, .inl (cI, 40, .inl (fun _ => 0))), (h0_0_0_9, .inl (cI, 40, .inl (fun _ => 0))), (h0_0_1, .inr (1, [.int 0, .ref h0_0_1_1, .ref h0_0_1_2, .ref h0_0_1_3, .ref h0_0_1_4, .ref h0_0_1_5, .ref h0_0_1_6, .ref h0_0_1_7, .int 0, .ref h0_0_1_9, .ref h0_0_1_10, .ref h0_0_1_11, .int (-1), .long 0, .long 0])), (h0_0_2, .inr (10, [.int 0, .ref h0_0_2_1, .ref h0_0_2_2, .ref h0_0_2_3, .ref h0_0_2_4, .ref h0_0_2_5, .ref h0_0_2_6, .int 0, .ref h0_0_2_8, .ref h0_0_2_9, .ref h0_0_2_10])), (h0_0_3, .inr (7, [.ref h0_0_3_0, .ref h0_0_3_1])), (h0_0_3_0, .inl (cI, 400, .inl (fillU (fun _ => 0) (-1) 400))), (h0_0_3_1, .inl (cR, 400, .inr (.inr (.inr (.inr (fun _ => none)))))), (h0_0_4, .inr (2, [.int 0, .ref h0_0_4_1, .ref h0_0_4_2, .ref h0_0_4_3])), (h0_0_4_3, .inl (cI, 20, .inl (fun _ => 0)))] sz) := by
  refine metW (cc := cX11_go) (maxL := 3) (ret := (some .int)) (by decide) rfl (Nat.le_of_ble_eq_true rfl) ?_
  intro p e s m below meth c A ls hx hb hr hml hown hts hlocks hin hKK hP hD hA hS hl
  have hK := hKK.1
  have hown : s.vm.findClass RX11 = some m.cls := hown
  have hl : lv_has ls 3 [(0, .ref h0), (1, .int u1)] := hl
  have hP : va_P G vwCl [(h0, .inr (11, [.ref h0_0, .ref h0_1, .ref h0_2, .ref h0_3, .int 0, .int 0, .ref h0_6, .ref h0_7, .ref h0_8, .int 0, .ref h0_10, .ref h0_11, .int 0, .ref h0_13, .int 0, .int 0])), (h0_0, .inr (0, [.ref h0_0_0, .ref h0_0_1, .ref h0_0_2, .ref h0_0_3, .ref h0_0_4, .ref h0_0_5, .int 0, .int 0, .ref h0_0_8, .int 0, .int 0, .int 0, .int 0, .long 0, .int 0, .ref h0_0_15, .ref h0_0_16])), (h0_0_0, .inr (4, [.int 0, .ref h0_0_0_1, .ref h0_0_0_2, .ref h0_0_0_3, .ref h0_0_0_4, .ref h0_0_0_5, .ref h0_0_0_6, .ref h0_0_0_7, .ref h0_0_0_8, .ref h0_0_0_9])), (h0_0_0_8, .inl (cI, 40, .inl (fun _ => 0))), (h0_0_0_9, .inl (cI, 40, .inl (fun _ => 0))), (h0_0_1, .inr (1, [.int 0, .ref h0_0_1_1, .ref h0_0_1_2, .ref h0_0_1_3, .ref h0_0_1_4, .ref h0_0_1_5, .ref h0_0_1_6, .ref h0_0_1_7, .int 0, .ref h0_0_1_9, .ref h0_0_1_10, .ref h0_0_1_11, .int (-1), .long 0, .long 0])), (h0_0_2, .inr (10, [.int 0, .ref h0_0_2_1, .ref h0_0_2_2, .ref h0_0_2_3, .ref h0_0_2_4, .ref h0_0_2_5, .ref h0_0_2_6, .int 0, .ref h0_0_2_8, .ref h0_0_2_9, .ref h0_0_2_10])), (h0_0_3, .inr (7, [.ref h0_0_3_0, .ref h0_0_3_1])), (h0_0_3_0, .inl (cI, 400, .inl (fillU (fun _ => 0) (-1) 400))), (h0_0_3_1, .inl (cR, 400, .inr (.inr (.inr (.inr (fun _ => none)))))), (h0_0_4, .inr (2, [.int 0, .ref h0_0_4_1, .ref h0_0_4_2, .ref h0_0_4_3])), (h0_0_4_3, .inl (cI, 20, .inl (fun _ => 0)))] s.heap := hP
  have hD : va_D A [(h0, .inr (11, [.ref h0_0, .ref h0_1, .ref h0_2, .ref h0_3, .int 0, .int 0, .ref h0_6, .ref h0_7, .ref h0_8, .int 0, .ref h0_10, .ref h0_11, .int 0, .ref h0_13, .int 0, .int 0])), (h0_0, .inr (0, [.ref h0_0_0, .ref h0_0_1, .ref h0_0_2, .ref h0_0_3, .ref h0_0_4, .ref h0_0_5, .int 0, .int 0, .ref h0_0_8, .int 0, .int 0, .int 0, .int 0, .long 0, .int 0, .ref h0_0_15, .ref h0_0_16])), (h0_0_0, .inr (4, [.int 0, .ref h0_0_0_1, .ref h0_0_0_2, .ref h0_0_0_3, .ref h0_0_0_4, .ref h0_0_0_5, .ref h0_0_0_6, .ref h0_0_0_7, .ref h0_0_0_8, .ref h0_0_0_9])), (h0_0_0_8, .inl (cI, 40, .inl (fun _ => 0))), (h0_0_0_9, .inl (cI, 40, .inl (fun _ => 0))), (h0_0_1, .inr (1, [.int 0, .ref h0_0_1_1, .ref h0_0_1_2, .ref h0_0_1_3, .ref h0_0_1_4, .ref h0_0_1_5, .ref h0_0_1_6, .ref h0_0_1_7, .int 0, .ref h0_0_1_9, .ref h0_0_1_10, .ref h0_0_1_11, .int (-1), .long 0, .long 0])), (h0_0_2, .inr (10, [.int 0, .ref h0_0_2_1, .ref h0_0_2_2, .ref h0_0_2_3, .ref h0_0_2_4, .ref h0_0_2_5, .ref h0_0_2_6, .int 0, .ref h0_0_2_8, .ref h0_0_2_9, .ref h0_0_2_10])), (h0_0_3, .inr (7, [.ref h0_0_3_0, .ref h0_0_3_1])), (h0_0_3_0, .inl (cI, 400, .inl (fillU (fun _ => 0) (-1) 400))), (h0_0_3_1, .inl (cR, 400, .inr (.inr (.inr (.inr (fun _ => none)))))), (h0_0_4, .inr (2, [.int 0, .ref h0_0_4_1, .ref h0_0_4_2, .ref h0_0_4_3])), (h0_0_4_3, .inl (cI, 20, .inl (fun _ => 0)))] := hD
  refine lv_aload_n hx hb dX11_go_0 rfl (lv_at hl 0 rfl) ?_
  refine lv_iload_n hx hb dX11_go_1 rfl (lv_at hl 1 rfl) ?_
  refine goV (As := [.int u1]) (rest := []) (wr := [(h0_0_0, .inr (4, [.int 0, .ref h0_0_0_1, .ref h0_0_0_2, .ref h0_0_0_3, .ref h0_0_0_4, .ref h0_0_0_5, .ref h0_0_0_6, .ref h0_0_0_7, .ref h0_0_0_8, .ref h0_0_0_9])), (h0_0_0_8, .inl (cI, 40, .inl (fun _ => 0))), (h0_0_0_9, .inl (cI, 40, .inl (fun _ => 0))), (h0_0_1, .inr (1, [.int 0, .ref h0_0_1_1, .ref h0_0_1_2, .ref h0_0_1_3, .ref h0_0_1_4, .ref h0_0_1_5, .ref h0_0_1_6, .ref h0_0_1_7, .int 0, .ref h0_0_1_9, .ref h0_0_1_10, .ref h0_0_1_11, .int (-1), .long 0, .long 0])), (h0_0_2, .inr (10, [.int 0, .ref h0_0_2_1, .ref h0_0_2_2, .ref h0_0_2_3, .ref h0_0_2_4, .ref h0_0_2_5, .ref h0_0_2_6, .int 0, .ref h0_0_2_8, .ref h0_0_2_9, .ref h0_0_2_10])), (h0_0_3, .inr (7, [.ref h0_0_3_0, .ref h0_0_3_1])), (h0_0_3_0, .inl (cI, 400, .inl (fillU (fun _ => 0) (-1) 400))), (h0_0_3_1, .inl (cR, 400, .inr (.inr (.inr (.inr (fun _ => none)))))), (h0_0_4, .inr (2, [.int 0, .ref h0_0_4_1, .ref h0_0_4_2, .ref h0_0_4_3])), (h0_0_4_3, .inl (cI, 20, .inl (fun _ => 0)))]) ⟨hx, hb, hml, hown, hts⟩ (c_X11_canGo l G cI cJ cZ cD cR cT h0 u1 h0_0 h0_1 h0_2 h0_3 h0_6 h0_7 h0_8 h0_10 h0_11 h0_13 h0_0_0 h0_0_1 h0_0_2 h0_0_3 h0_0_4 h0_0_5 h0_0_8 h0_0_15 h0_0_16 u1.toInt _ rfl) (cwV 1 hts gv_X11_go_273_X11_canGo rfl rfl rfl (by decide +kernel) ⟨Nat.le_of_ble_eq_true rfl, Nat.le_of_ble_eq_true rfl⟩) 0 rfl rfl rfl hKK hP hD hS hA [0, 1] [2, 3, 4, 5, 6, 7, 8, 9, 10, 11] rfl rfl (by decide +kernel) (by decide +kernel) (by decide +kernel) rfl hl.1 rfl (lv_room (Nat.le_of_ble_eq_true rfl)) dX11_go_2 ⟨Nat.le_of_ble_eq_true rfl, Nat.le_of_ble_eq_true rfl⟩ (fun v2 q1 gq1 H locs hv2 => appW (ws' := [(h0_0_0, .inr (4, [.int 0, .ref h0_0_0_1, .ref h0_0_0_2, .ref h0_0_0_3, .ref h0_0_0_4, .ref h0_0_0_5, .ref h0_0_0_6, .ref h0_0_0_7, .ref h0_0_0_8, .ref h0_0_0_9])), (h0_0_0_8, .inl (cI, 40, .inl (fun _ => 0))), (h0_0_0_9, .inl (cI, 40, .inl (fun _ => 0))), (h0_0_1, .inr (1, [.int 0, .ref h0_0_1_1, .ref h0_0_1_2, .ref h0_0_1_3, .ref h0_0_1_4, .ref h0_0_1_5, .ref h0_0_1_6, .ref h0_0_1_7, .int 0, .ref h0_0_1_9, .ref h0_0_1_10, .ref h0_0_1_11, .int (-1), .long 0, .long 0])), (h0_0_2, .inr (10, [.int 0, .ref h0_0_2_1, .ref h0_0_2_2, .ref h0_0_2_3, .ref h0_0_2_4, .ref h0_0_2_5, .ref h0_0_2_6, .int 0, .ref h0_0_2_8, .ref h0_0_2_9, .ref h0_0_2_10])), (h0_0_3, .inr (7, [.ref h0_0_3_0, .ref h0_0_3_1])), (h0_0_3_0, .inl (cI, 400, .inl (fillU (fun _ => 0) (-1) 400))), (h0_0_3_1, .inl (cR, 400, .inr (.inr (.inr (.inr (fun _ => none)))))), (h0_0_4, .inr (2, [.int 0, .ref h0_0_4_1, .ref h0_0_4_2, .ref h0_0_4_3])), (h0_0_4_3, .inl (cI, 20, .inl (fun _ => 0))), (h0, .inr (11, [.ref h0_0, .ref h0_1, .ref h0_2, .ref h0_3, .int 0, .int 0, .ref h0_6, .ref h0_7, .ref h0_8, .int 0, .ref h0_10, .ref h0_11, .int 0, .ref h0_13, .int 0, .int 0])), (h0_0, .inr (0, [.ref h0_0_0, .ref h0_0_1, .ref h0_0_2, .ref h0_0_3, .ref h0_0_4, .ref h0_0_5, .int 0, .int 0, .ref h0_0_8, .int 0, .int 0, .int 0, .int 0, .long 0, .int 0, .ref h0_0_15, .ref h0_0_16]))]) rfl (fun hP hD hS => ?_))
  obtain ⟨_, rfl, h4⟩ := hv2
  rcases h4 with ⟨rfl, h4⟩ | ⟨rfl, h4⟩
  · refine lv_if_ne (tgt := 14) hx hb dX11_go_5 (by decide) (fun _ => ?_) (fun c => absurd c (by decide))
    refine lv_iconst (v := 0) hx hb dX11_go_14 (by decide) ?_
    refine lv_istore_n (lv' := [(2, .int 0), (0, .ref h0), (1, .int u1)]) hx hb dX11_go_15 rfl hl (by decide) rfl (fun ls hl => ?_)
    obtain ⟨w, hw, ew⟩ : ∃ w : Nat, w ≤ 104 ∧ u1 = nI w := ⟨u1.toInt.toNat, by omega, Int32.toInt_inj.mp (by rw [nI_toInt (by omega)]; omega)⟩
    have hl : lv_has ls 3 [(2, .int 0), (0, .ref h0), (1, .int (nI w))] := by rw [ew] at hl; exact hl
    have loop16 : ∀ (n6 k5 : Nat), k5 + n6 = w → ∀ (z7 : Int32) (z8 : Nat → Int32) (z9 : Nat → Int32) (H : Heap) (locs : List Loc) (ls : Array Slot), va_P G vwCl [(h0_0_0, .inr (4, [.int 0, .ref h0_0_0_1, .ref h0_0_0_2, .ref h0_0_0_3, .ref h0_0_0_4, .ref h0_0_0_5, .ref h0_0_0_6, .ref h0_0_0_7, .ref h0_0_0_8, .ref h0_0_0_9])), (h0_0_0_8, .inl (cI, 40, .inl z9)), (h0_0_0_9, .inl (cI, 40, .inl (fun _ => 0))), (h0_0_1, .inr (1, [.int 0, .ref h0_0_1_1, .ref h0_0_1_2, .ref h0_0_1_3, .ref h0_0_1_4, .ref h0_0_1_5, .ref h0_0_1_6, .ref h0_0_1_7, .int 0, .ref h0_0_1_9, .ref h0_0_1_10, .ref h0_0_1_11, .int (-1), .long 0, .long 0])), (h0_0_2, .inr (10, [.int 0, .ref h0_0_2_1, .ref h0_0_2_2, .ref h0_0_2_3, .ref h0_0_2_4, .ref h0_0_2_5, .ref h0_0_2_6, .int 0, .ref h0_0_2_8, .ref h0_0_2_9, .ref h0_0_2_10])), (h0_0_3, .inr (7, [.ref h0_0_3_0, .ref h0_0_3_1])), (h0_0_3_0, .inl (cI, 400, .inl (fillU (fun _ => 0) (-1) 400))), (h0_0_3_1, .inl (cR, 400, .inr (.inr (.inr (.inr (fun _ => none)))))), (h0_0_4, .inr (2, [.int 0, .ref h0_0_4_1, .ref h0_0_4_2, .ref h0_0_4_3])), (h0_0_4_3, .inl (cI, 20, .inl z8)), (h0, .inr (11, [.ref h0_0, .ref h0_1, .ref h0_2, .ref h0_3, .int 0, .int 0, .ref h0_6, .ref h0_7, .ref h0_8, .int 0, .ref h0_10, .ref h0_11, .int 0, .ref h0_13, .int 0, .int 0])), (h0_0, .inr (0, [.ref h0_0_0, .ref h0_0_1, .ref h0_0_2, .ref h0_0_3, .ref h0_0_4, .ref h0_0_5, .int (nI k5), .int 0, .ref h0_0_8, .int 0, .int 0, .int 0, .int 0, .long 0, .int z7, .ref h0_0_15, .ref h0_0_16]))] H → va_D A [(h0_0_0, .inr (4, [.int 0, .ref h0_0_0_1, .ref h0_0_0_2, .ref h0_0_0_3, .ref h0_0_0_4, .ref h0_0_0_5, .ref h0_0_0_6, .ref h0_0_0_7, .ref h0_0_0_8, .ref h0_0_0_9])), (h0_0_0_8, .inl (cI, 40, .inl z9)), (h0_0_0_9, .inl (cI, 40, .inl (fun _ => 0))), (h0_0_1, .inr (1, [.int 0, .ref h0_0_1_1, .ref h0_0_1_2, .ref h0_0_1_3, .ref h0_0_1_4, .ref h0_0_1_5, .ref h0_0_1_6, .ref h0_0_1_7, .int 0, .ref h0_0_1_9, .ref h0_0_1_10, .ref h0_0_1_11, .int (-1), .long 0, .long 0])), (h0_0_2, .inr (10, [.int 0, .ref h0_0_2_1, .ref h0_0_2_2, .ref h0_0_2_3, .ref h0_0_2_4, .ref h0_0_2_5, .ref h0_0_2_6, .int 0, .ref h0_0_2_8, .ref h0_0_2_9, .ref h0_0_2_10])), (h0_0_3, .inr (7, [.ref h0_0_3_0, .ref h0_0_3_1])), (h0_0_3_0, .inl (cI, 400, .inl (fillU (fun _ => 0) (-1) 400))), (h0_0_3_1, .inl (cR, 400, .inr (.inr (.inr (.inr (fun _ => none)))))), (h0_0_4, .inr (2, [.int 0, .ref h0_0_4_1, .ref h0_0_4_2, .ref h0_0_4_3])), (h0_0_4_3, .inl (cI, 20, .inl z8)), (h0, .inr (11, [.ref h0_0, .ref h0_1, .ref h0_2, .ref h0_3, .int 0, .int 0, .ref h0_6, .ref h0_7, .ref h0_8, .int 0, .ref h0_10, .ref h0_11, .int 0, .ref h0_13, .int 0, .int 0])), (h0_0, .inr (0, [.ref h0_0_0, .ref h0_0_1, .ref h0_0_2, .ref h0_0_3, .ref h0_0_4, .ref h0_0_5, .int (nI k5), .int 0, .ref h0_0_8, .int 0, .int 0, .int 0, .int 0, .long 0, .int z7, .ref h0_0_15, .ref h0_0_16]))] → va_S A s.heap H locs → lv_has ls 3 [(2, .int (nI k5)), (0, .ref h0), (1, .int (nI w))] → W p l e ({ frames := 5, cells := 0, slots := 0, locals := 129 }) s m ([.ref h0, .int u1] : List Value).toArray below meth c H locs 0 0 (MQ below (QW (RI (fun r => r = F_go u1)) G A (fun q g => [])) ([.ref h0, .int u1] : List Value).toArray s 0 0 A) (F0 m 16 ls []) := by
      intro n6
      induction n6 with
      | zero =>
        intro k5 hk z7 z8 z9 H locs ls hP hD hS hl
        have hkI : (nI k5).toInt = (k5 : Int) := nI_toInt (by omega)
        refine lv_iload_n hx hb dX11_go_16 rfl (lv_at hl 0 rfl) ?_
        refine lv_iload_n hx hb dX11_go_17 rfl (lv_at hl 2 rfl) ?_
        refine lv_icmp_ge (tgt := 34) hx hb dX11_go_18 (by decide) (fun _ => ?_) (fun c => absurd (nI_le (by omega) (by omega)) c)
        refine lv_aload_n hx hb dX11_go_34 rfl (lv_at hl 1 rfl) ?_
        refine lv_aload_n hx hb dX11_go_35 rfl (lv_at hl 1 rfl) ?_
        refine va_get (D := G) (ci := 11) (v := .ref h0_0) (C := RX11) (T := TX11) (N := 16) hx hb hts cm_X11_go_1 hown hK hP 10 rfl rfl 0 (by decide) (hts _ (dmem (j := 4) rfl)) (fun _ h9 => h9) rfl dX11_go_36 ?_
        refine va_get (D := G) (ci := 0) (v := .int (nI k5)) (C := RX0) (T := TX0) (N := 17) hx hb hts cm_X11_go_2 hown hK hP 11 rfl rfl 6 (by decide) (hts _ (dmem (j := 5) rfl)) (fun _ h9 => h9) rfl dX11_go_39 ?_
        refine goV (As := [.int (nI k5)]) (rest := []) (wr := [(h0_0_0, .inr (4, [.int 0, .ref h0_0_0_1, .ref h0_0_0_2, .ref h0_0_0_3, .ref h0_0_0_4, .ref h0_0_0_5, .ref h0_0_0_6, .ref h0_0_0_7, .ref h0_0_0_8, .ref h0_0_0_9])), (h0_0_0_8, .inl (cI, 40, .inl z9)), (h0_0_0_9, .inl (cI, 40, .inl (fun _ => 0))), (h0_0_1, .inr (1, [.int 0, .ref h0_0_1_1, .ref h0_0_1_2, .ref h0_0_1_3, .ref h0_0_1_4, .ref h0_0_1_5, .ref h0_0_1_6, .ref h0_0_1_7, .int 0, .ref h0_0_1_9, .ref h0_0_1_10, .ref h0_0_1_11, .int (-1), .long 0, .long 0])), (h0_0_2, .inr (10, [.int 0, .ref h0_0_2_1, .ref h0_0_2_2, .ref h0_0_2_3, .ref h0_0_2_4, .ref h0_0_2_5, .ref h0_0_2_6, .int 0, .ref h0_0_2_8, .ref h0_0_2_9, .ref h0_0_2_10])), (h0_0_3, .inr (7, [.ref h0_0_3_0, .ref h0_0_3_1])), (h0_0_3_0, .inl (cI, 400, .inl (fillU (fun _ => 0) (-1) 400))), (h0_0_3_1, .inl (cR, 400, .inr (.inr (.inr (.inr (fun _ => none)))))), (h0_0_4, .inr (2, [.int 0, .ref h0_0_4_1, .ref h0_0_4_2, .ref h0_0_4_3])), (h0_0_4_3, .inl (cI, 20, .inl z8)), (h0_0, .inr (0, [.ref h0_0_0, .ref h0_0_1, .ref h0_0_2, .ref h0_0_3, .ref h0_0_4, .ref h0_0_5, .int (nI k5), .int 0, .ref h0_0_8, .int 0, .int 0, .int 0, .int 0, .long 0, .int z7, .ref h0_0_15, .ref h0_0_16]))]) ⟨hx, hb, hml, hown, hts⟩ (c_X11_accept l G cI cJ cZ cD cR cT h0 (nI k5) h0_0 h0_1 h0_2 h0_3 0 0 h0_6 h0_7 h0_8 0 h0_10 h0_11 0 h0_13 0 0 _) (cwV 1 hts gv_X11_go_77_X11_accept rfl rfl rfl (by decide +kernel) ⟨Nat.le_of_ble_eq_true rfl, Nat.le_of_ble_eq_true rfl⟩) 10 rfl rfl rfl hKK hP hD hS hA [10] [0, 1, 2, 3, 4, 5, 6, 7, 8, 9, 11] rfl rfl (by decide +kernel) (by decide +kernel) (by decide +kernel) rfl hl.1 rfl (lv_room (Nat.le_of_ble_eq_true rfl)) dX11_go_42 ⟨Nat.le_of_ble_eq_true rfl, Nat.le_of_ble_eq_true rfl⟩ (fun v11 q10 gq10 H locs hv11 => appW (ws' := [(h0_0_0, .inr (4, [.int 0, .ref h0_0_0_1, .ref h0_0_0_2, .ref h0_0_0_3, .ref h0_0_0_4, .ref h0_0_0_5, .ref h0_0_0_6, .ref h0_0_0_7, .ref h0_0_0_8, .ref h0_0_0_9])), (h0_0_0_8, .inl (cI, 40, .inl z9)), (h0_0_0_9, .inl (cI, 40, .inl (fun _ => 0))), (h0_0_1, .inr (1, [.int 0, .ref h0_0_1_1, .ref h0_0_1_2, .ref h0_0_1_3, .ref h0_0_1_4, .ref h0_0_1_5, .ref h0_0_1_6, .ref h0_0_1_7, .int 0, .ref h0_0_1_9, .ref h0_0_1_10, .ref h0_0_1_11, .int (-1), .long 0, .long 0])), (h0_0_2, .inr (10, [.int 0, .ref h0_0_2_1, .ref h0_0_2_2, .ref h0_0_2_3, .ref h0_0_2_4, .ref h0_0_2_5, .ref h0_0_2_6, .int 0, .ref h0_0_2_8, .ref h0_0_2_9, .ref h0_0_2_10])), (h0_0_3, .inr (7, [.ref h0_0_3_0, .ref h0_0_3_1])), (h0_0_3_0, .inl (cI, 400, .inl (fillU (fun _ => 0) (-1) 400))), (h0_0_3_1, .inl (cR, 400, .inr (.inr (.inr (.inr (fun _ => none)))))), (h0_0_4, .inr (2, [.int 0, .ref h0_0_4_1, .ref h0_0_4_2, .ref h0_0_4_3])), (h0_0_4_3, .inl (cI, 20, .inl z8)), (h0_0, .inr (0, [.ref h0_0_0, .ref h0_0_1, .ref h0_0_2, .ref h0_0_3, .ref h0_0_4, .ref h0_0_5, .int (nI k5), .int 0, .ref h0_0_8, .int 0, .int 0, .int 0, .int 0, .long 0, .int z7, .ref h0_0_15, .ref h0_0_16])), (h0, .inr (11, [.ref h0_0, .ref h0_1, .ref h0_2, .ref h0_3, .int 0, .int 0, .ref h0_6, .ref h0_7, .ref h0_8, .int 0, .ref h0_10, .ref h0_11, .int 0, .ref h0_13, .int 0, .int 0]))]) rfl (fun hP hD hS => ?_))
        obtain ⟨_, rfl, rfl⟩ := hv11
        exact retI hx hb hr hlocks ⟨_, rfl, by unfold F_go; (repeat' split) <;> first | (exfalso; omega) | (rw [ew]; exact congrArg nI (by omega))⟩ hP hD hS (fun _ => 0) (fun _ _ => 0) [] (by decide +kernel) rfl dX11_go_45
      | succ n6 ih =>
        intro k5 hk z7 z8 z9 H locs ls hP hD hS hl
        have hkI : (nI k5).toInt = (k5 : Int) := nI_toInt (by omega)
        refine lv_iload_n hx hb dX11_go_16 rfl (lv_at hl 0 rfl) ?_
        refine lv_iload_n hx hb dX11_go_17 rfl (lv_at hl 2 rfl) ?_
        refine lv_icmp_ge (tgt := 34) hx hb dX11_go_18 (by decide) (fun c => absurd c (nI_ge (by omega) (by omega))) (fun _ => ?_)
        refine lv_aload_n hx hb dX11_go_21 rfl (lv_at hl 1 rfl) ?_
        refine va_get (D := G) (ci := 11) (v := .ref h0_0) (C := RX11) (T := TX11) (N := 16) hx hb hts cm_X11_go_1 hown hK hP 10 rfl rfl 0 (by decide) (hts _ (dmem (j := 4) rfl)) (fun _ h9 => h9) rfl dX11_go_22 ?_
        refine goV (As := []) (rest := []) (wr := [(h0, .inr (11, [.ref h0_0, .ref h0_1, .ref h0_2, .ref h0_3, .int 0, .int 0, .ref h0_6, .ref h0_7, .ref h0_8, .int 0, .ref h0_10, .ref h0_11, .int 0, .ref h0_13, .int 0, .int 0]))]) ⟨hx, hb, hml, hown, hts⟩ (c_X0_passWeek l G cI cJ cZ cD cR cT h0_0 h0_0_0 h0_0_1 h0_0_2 h0_0_3 h0_0_4 h0_0_5 k5 h0_0_8 z7 h0_0_15 h0_0_16 h0_0_0_1 h0_0_0_2 h0_0_0_3 h0_0_0_4 h0_0_0_5 h0_0_0_6 h0_0_0_7 h0_0_0_8 h0_0_0_9 z9 h0_0_1_1 h0_0_1_2 h0_0_1_3 h0_0_1_4 h0_0_1_5 h0_0_1_6 h0_0_1_7 h0_0_1_9 h0_0_1_10 h0_0_1_11 h0_0_2_1 h0_0_2_2 h0_0_2_3 h0_0_2_4 h0_0_2_5 h0_0_2_6 h0_0_2_8 h0_0_2_9 h0_0_2_10 h0_0_3_0 h0_0_3_1 (fillU (fun _ => 0) (-1) 400) h0_0_4_1 h0_0_4_2 h0_0_4_3 z8 _ (by omega)) (cwV 0 hts gv_X11_go_276_X0_passWeek rfl rfl rfl (by decide +kernel) ⟨Nat.le_of_ble_eq_true rfl, Nat.le_of_ble_eq_true rfl⟩) 11 rfl rfl rfl hKK hP hD hS hA [11, 0, 1, 2, 3, 4, 5, 6, 7, 8, 9] [10] rfl rfl (by decide +kernel) (by decide +kernel) (by decide +kernel) rfl hl.1 rfl (lv_room (Nat.le_of_ble_eq_true rfl)) dX11_go_25 ⟨Nat.le_of_ble_eq_true rfl, Nat.le_of_ble_eq_true rfl⟩ (fun v14 q13 gq13 H locs hv14 => appW (ws' := [(h0, .inr (11, [.ref h0_0, .ref h0_1, .ref h0_2, .ref h0_3, .int 0, .int 0, .ref h0_6, .ref h0_7, .ref h0_8, .int 0, .ref h0_10, .ref h0_11, .int 0, .ref h0_13, .int 0, .int 0])), (h0_0, .inr (0, [.ref h0_0_0, .ref h0_0_1, .ref h0_0_2, .ref h0_0_3, .ref h0_0_4, .ref h0_0_5, .int (nI (k5 + 1)), .int 0, .ref h0_0_8, .int 0, .int 0, .int 0, .int 0, .long 0, .int (gq13 0 0), .ref h0_0_15, .ref h0_0_16])), (h0_0_0, .inr (4, [.int 0, .ref h0_0_0_1, .ref h0_0_0_2, .ref h0_0_0_3, .ref h0_0_0_4, .ref h0_0_0_5, .ref h0_0_0_6, .ref h0_0_0_7, .ref h0_0_0_8, .ref h0_0_0_9])), (h0_0_0_8, .inl (cI, 40, .inl (gq13 1))), (h0_0_0_9, .inl (cI, 40, .inl (fun _ => 0))), (h0_0_1, .inr (1, [.int 0, .ref h0_0_1_1, .ref h0_0_1_2, .ref h0_0_1_3, .ref h0_0_1_4, .ref h0_0_1_5, .ref h0_0_1_6, .ref h0_0_1_7, .int 0, .ref h0_0_1_9, .ref h0_0_1_10, .ref h0_0_1_11, .int (-1), .long 0, .long 0])), (h0_0_2, .inr (10, [.int 0, .ref h0_0_2_1, .ref h0_0_2_2, .ref h0_0_2_3, .ref h0_0_2_4, .ref h0_0_2_5, .ref h0_0_2_6, .int 0, .ref h0_0_2_8, .ref h0_0_2_9, .ref h0_0_2_10])), (h0_0_3, .inr (7, [.ref h0_0_3_0, .ref h0_0_3_1])), (h0_0_3_0, .inl (cI, 400, .inl (fillU (fun _ => 0) (-1) 400))), (h0_0_3_1, .inl (cR, 400, .inr (.inr (.inr (.inr (fun _ => none)))))), (h0_0_4, .inr (2, [.int 0, .ref h0_0_4_1, .ref h0_0_4_2, .ref h0_0_4_3])), (h0_0_4_3, .inl (cI, 20, .inl (fillU z8 0 20)))]) rfl (fun hP hD hS => ?_))
        obtain rfl := hv14
        refine lv_iinc (v := (nI (k5 + 1))) (lv' := [(2, .int (nI (k5 + 1))), (0, .ref h0), (1, .int (nI w))]) hx hb dX11_go_28 hl (k := 0) rfl (nI_1 k5) (by decide) rfl (fun ls hl => ?_)
        refine lv_goto (tgt := 16) hx hb dX11_go_31 (by decide) ?_
        exact ih (k5 + 1) (by omega) _ _ _ _ _ _ (P_subm hP [2, 3, 4, 5, 6, 7, 8, 9, 10, 11, 0, 1] rfl) (hD.sub [2, 3, 4, 5, 6, 7, 8, 9, 10, 11, 0, 1] (by decide +kernel) rfl) hS (lv_sub hl [0, 1, 2] rfl)
    exact loop16 _ 0 (Nat.zero_add _) _ _ _ _ _ _ hP hD hS hl
  · refine lv_if_ne (tgt := 14) hx hb dX11_go_5 (by decide) (fun c => absurd c (by decide)) (fun _ => ?_)
    refine lv_aload_n hx hb dX11_go_8 rfl (lv_at hl 0 rfl) ?_
    refine lv_iconst (v := (-1)) hx hb dX11_go_9 (by decide) ?_
    refine goV (As := [.int (-1)]) (rest := []) (wr := [(h0_0_0, .inr (4, [.int 0, .ref h0_0_0_1, .ref h0_0_0_2, .ref h0_0_0_3, .ref h0_0_0_4, .ref h0_0_0_5, .ref h0_0_0_6, .ref h0_0_0_7, .ref h0_0_0_8, .ref h0_0_0_9])), (h0_0_0_8, .inl (cI, 40, .inl (fun _ => 0))), (h0_0_0_9, .inl (cI, 40, .inl (fun _ => 0))), (h0_0_1, .inr (1, [.int 0, .ref h0_0_1_1, .ref h0_0_1_2, .ref h0_0_1_3, .ref h0_0_1_4, .ref h0_0_1_5, .ref h0_0_1_6, .ref h0_0_1_7, .int 0, .ref h0_0_1_9, .ref h0_0_1_10, .ref h0_0_1_11, .int (-1), .long 0, .long 0])), (h0_0_2, .inr (10, [.int 0, .ref h0_0_2_1, .ref h0_0_2_2, .ref h0_0_2_3, .ref h0_0_2_4, .ref h0_0_2_5, .ref h0_0_2_6, .int 0, .ref h0_0_2_8, .ref h0_0_2_9, .ref h0_0_2_10])), (h0_0_3, .inr (7, [.ref h0_0_3_0, .ref h0_0_3_1])), (h0_0_3_0, .inl (cI, 400, .inl (fillU (fun _ => 0) (-1) 400))), (h0_0_3_1, .inl (cR, 400, .inr (.inr (.inr (.inr (fun _ => none)))))), (h0_0_4, .inr (2, [.int 0, .ref h0_0_4_1, .ref h0_0_4_2, .ref h0_0_4_3])), (h0_0_4_3, .inl (cI, 20, .inl (fun _ => 0))), (h0_0, .inr (0, [.ref h0_0_0, .ref h0_0_1, .ref h0_0_2, .ref h0_0_3, .ref h0_0_4, .ref h0_0_5, .int 0, .int 0, .ref h0_0_8, .int 0, .int 0, .int 0, .int 0, .long 0, .int 0, .ref h0_0_15, .ref h0_0_16]))]) ⟨hx, hb, hml, hown, hts⟩ (c_X11_refuse l G cI cJ cZ cD cR cT h0 (-1) h0_0 h0_1 h0_2 h0_3 0 0 h0_6 h0_7 h0_8 0 h0_10 h0_11 0 h0_13 0 0 _) (cwV 1 hts gv_X11_go_59_X11_refuse rfl rfl rfl (by decide +kernel) ⟨Nat.le_of_ble_eq_true rfl, Nat.le_of_ble_eq_true rfl⟩) 10 rfl rfl rfl hKK hP hD hS hA [10] [0, 1, 2, 3, 4, 5, 6, 7, 8, 9, 11] rfl rfl (by decide +kernel) (by decide +kernel) (by decide +kernel) rfl hl.1 rfl (lv_room (Nat.le_of_ble_eq_true rfl)) dX11_go_10 ⟨Nat.le_of_ble_eq_true rfl, Nat.le_of_ble_eq_true rfl⟩ (fun v16 q15 gq15 H locs hv16 => appW (ws' := [(h0_0_0, .inr (4, [.int 0, .ref h0_0_0_1, .ref h0_0_0_2, .ref h0_0_0_3, .ref h0_0_0_4, .ref h0_0_0_5, .ref h0_0_0_6, .ref h0_0_0_7, .ref h0_0_0_8, .ref h0_0_0_9])), (h0_0_0_8, .inl (cI, 40, .inl (fun _ => 0))), (h0_0_0_9, .inl (cI, 40, .inl (fun _ => 0))), (h0_0_1, .inr (1, [.int 0, .ref h0_0_1_1, .ref h0_0_1_2, .ref h0_0_1_3, .ref h0_0_1_4, .ref h0_0_1_5, .ref h0_0_1_6, .ref h0_0_1_7, .int 0, .ref h0_0_1_9, .ref h0_0_1_10, .ref h0_0_1_11, .int (-1), .long 0, .long 0])), (h0_0_2, .inr (10, [.int 0, .ref h0_0_2_1, .ref h0_0_2_2, .ref h0_0_2_3, .ref h0_0_2_4, .ref h0_0_2_5, .ref h0_0_2_6, .int 0, .ref h0_0_2_8, .ref h0_0_2_9, .ref h0_0_2_10])), (h0_0_3, .inr (7, [.ref h0_0_3_0, .ref h0_0_3_1])), (h0_0_3_0, .inl (cI, 400, .inl (fillU (fun _ => 0) (-1) 400))), (h0_0_3_1, .inl (cR, 400, .inr (.inr (.inr (.inr (fun _ => none)))))), (h0_0_4, .inr (2, [.int 0, .ref h0_0_4_1, .ref h0_0_4_2, .ref h0_0_4_3])), (h0_0_4_3, .inl (cI, 20, .inl (fun _ => 0))), (h0_0, .inr (0, [.ref h0_0_0, .ref h0_0_1, .ref h0_0_2, .ref h0_0_3, .ref h0_0_4, .ref h0_0_5, .int 0, .int 0, .ref h0_0_8, .int 0, .int 0, .int 0, .int 0, .long 0, .int 0, .ref h0_0_15, .ref h0_0_16])), (h0, .inr (11, [.ref h0_0, .ref h0_1, .ref h0_2, .ref h0_3, .int 0, .int 0, .ref h0_6, .ref h0_7, .ref h0_8, .int 0, .ref h0_10, .ref h0_11, .int 0, .ref h0_13, .int 0, .int (-1)]))]) rfl (fun hP hD hS => ?_))
    obtain ⟨_, rfl, rfl⟩ := hv16
    exact retI hx hb hr hlocks ⟨_, rfl, by unfold F_go; (repeat' split) <;> first | rfl | (exfalso; omega)⟩ hP hD hS (fun _ => 0) (fun _ _ => 0) [] (by decide +kernel) rfl dX11_go_13
def d_X12_priceNow : List Cond := [Cond.fieldLink RX12 161 "NoRentModel" "isPaper" "Z", Cond.fieldLink RX12 8 "NoRentModel" "row" "[I"]
def v_X12_priceNow : List Cond := Cond.code yX12_priceNow cX12_priceNow 3 (some .int) :: (d_X12_priceNow ++ (wsX120 ++ ([] : List Cond)))
theorem cm_X12_priceNow_0 : ∀ w ∈ wsX120, w ∈ v_X12_priceNow := fun _ h => List.mem_cons_of_mem _ (List.mem_append_right _ (List.mem_append_left _ h))
theorem gd_X12_priceNow : Gd v_X12_priceNow := gd_mk (by decide +kernel) (gd_app gd_X12 gd_nil)
set_option maxHeartbeats 4000000 in
set_option maxRecDepth 100000 in
theorem c_X12_priceNow (l : Launch) (G : va_G) (cI cJ cZ cD cR cT : ClassId) (h0 : Nat) (h0_2 : Nat) (h0_3 : Nat) (h0_4 : Nat) (h0_5 : Nat) (h0_9 : Nat) (h0_10 : Nat) (h0_11 : Nat) (h0_20 : Nat) (h0_22 : Nat) (h0_23 : Nat) (h0_25 : Nat) (h0_26 : Nat) (h0_29 : Nat) (h0_30 : Nat) (h0_31 : Nat) (h0_32 : Nat) (h0_39 : Nat) (h0_40 : Nat) (h0_42 : Nat) (h0_44 : Nat) (h0_45 : Nat) (mm : Nat) (sz : Nat) (hn_mm : mm ≤ 398) : Met l yX12_priceNow v_X12_priceNow ({ frames := 1, cells := 0, slots := 0, locals := 40 }) (va_Pc [.ref h0] (PreW G (tys6 cI cJ cZ cD cR cT) [(h0, .inr (12, [.int 0, .int 0, .ref h0_2, .ref h0_3, .ref h0_4, .ref h0_5, .int 0, .int 0, .int 0, .ref h0_9, .ref h0_10, .ref h0_11, .int 0, .int 0, .int 0, .int 0, .long 0, .int (-1), .int 0, .int 0, .ref h0_20, .int 0, .ref h0_22, .ref h0_23, .int 0, .ref h0_25, .ref h0_26, .int 0, .int 0, .ref h0_29, .ref h0_30, .ref h0_31, .ref h0_32, .int 0, .long 0, .long 0, .long 0, .long 0, .int 0, .ref h0_39, .ref h0_40, .int 0, .ref h0_42, .int 0, .ref h0_44, .ref h0_45, .int 0, .int 0, .int 0, .int 0, .int 0, .int 0])), (h0_2, .inl (cI, 35942, .inl (upd mrow 8 (nI mm))))] sz)) (QW (RI (fun _ => True)) G (va_A [(h0, .inr (12, [.int 0, .int 0, .ref h0_2, .ref h0_3, .ref h0_4, .ref h0_5, .int 0, .int 0, .int 0, .ref h0_9, .ref h0_10, .ref h0_11, .int 0, .int 0, .int 0, .int 0, .long 0, .int (-1), .int 0, .int 0, .ref h0_20, .int 0, .ref h0_22, .ref h0_23, .int 0, .ref h0_25, .ref h0_26, .int 0, .int 0, .ref h0_29, .ref h0_30, .ref h0_31, .ref h0_32, .int 0, .long 0, .long 0, .long 0, .long 0, .int 0, .ref h0_39, .ref h0_40, .int 0, .ref h0_42, .int 0, .ref h0_44, .ref h0_45, .int 0, .int 0, .int 0, .int 0, .int 0, .int 0])), (h0_2, .inl (cI, 35942, .inl (upd mrow 8 (nI mm))))] sz) (fun q g => [(h0, .inr (12, [.int 0, .int 0, .ref h0_2, .ref h0_3, .ref h0_4, .ref h0_5, .int 0, .int 0, .int 0, .ref h0_9, .ref h0_10, .ref h0_11, .int 0, .int 0, .int 0, .int 0, .long 0, .int (-1), .int 0, .int 0, .ref h0_20, .int 0, .ref h0_22, .ref h0_23, .int 0, .ref h0_25, .ref h0_26, .int 0, .int 0, .ref h0_29, .ref h0_30, .ref h0_31, .ref h0_32, .int 0, .long 0, .long 0, .long 0, .long 0, .int 0, .ref h0_39, .ref h0_40, .int 0, .ref h0_42, .int 0, .ref h0_44, .ref h0_45, .int 0, .int 0, .int 0, .int 0, .int 0, .int 0])), (h0_2, .inl (cI, 35942, .inl (upd mrow 8 (nI mm))))])) 0 0 (va_A [(h0, .inr (12, [.int 0, .int 0, .ref h0_2, .ref h0_3, .ref h0_4, .ref h0_5, .int 0, .int 0, .int 0, .ref h0_9, .ref h0_10, .ref h0_11, .int 0, .int 0, .int 0, .int 0, .long 0, .int (-1), .int 0, .int 0, .ref h0_20, .int 0, .ref h0_22, .ref h0_23, .int 0, .ref h0_25, .ref h0_26, .int 0, .int 0, .ref h0_29, .ref h0_30, .ref h0_31, .ref h0_32, .int 0, .long 0, .long 0, .long 0, .long 0, .int 0, .ref h0_39, .ref h0_40, .int 0, .ref h0_42, .int 0, .ref h0_44, .ref h0_45, .int 0, .int 0, .int 0, .int 0, .int 0, .int 0])), (h0_2, .inl (cI, 35942, .inl (upd mrow 8 (nI mm))))] sz) := by
  refine metW (cc := cX12_priceNow) (maxL := 3) (ret := (some .int)) (by decide) rfl (Nat.le_of_ble_eq_true rfl) ?_
  intro p e s m below meth c A ls hx hb hr hml hown hts hlocks hin hKK hP hD hA hS hl
  have hK := hKK.1
  have hown : s.vm.findClass RX12 = some m.cls := hown
  have hl : lv_has ls 3 [(0, .ref h0)] := hl
  have hP : va_P G vwCl [(h0, .inr (12, [.int 0, .int 0, .ref h0_2, .ref h0_3, .ref h0_4, .ref h0_5, .int 0, .int 0, .int 0, .ref h0_9, .ref h0_10, .ref h0_11, .int 0, .int 0, .int 0, .int 0, .long 0, .int (-1), .int 0, .int 0, .ref h0_20, .int 0, .ref h0_22, .ref h0_23, .int 0, .ref h0_25, .ref h0_26, .int 0, .int 0, .ref h0_29, .ref h0_30, .ref h0_31, .ref h0_32, .int 0, .long 0, .long 0, .long 0, .long 0, .int 0, .ref h0_39, .ref h0_40, .int 0, .ref h0_42, .int 0, .ref h0_44, .ref h0_45, .int 0, .int 0, .int 0, .int 0, .int 0, .int 0])), (h0_2, .inl (cI, 35942, .inl (upd mrow 8 (nI mm))))] s.heap := hP
  have hD : va_D A [(h0, .inr (12, [.int 0, .int 0, .ref h0_2, .ref h0_3, .ref h0_4, .ref h0_5, .int 0, .int 0, .int 0, .ref h0_9, .ref h0_10, .ref h0_11, .int 0, .int 0, .int 0, .int 0, .long 0, .int (-1), .int 0, .int 0, .ref h0_20, .int 0, .ref h0_22, .ref h0_23, .int 0, .ref h0_25, .ref h0_26, .int 0, .int 0, .ref h0_29, .ref h0_30, .ref h0_31, .ref h0_32, .int 0, .long 0, .long 0, .long 0, .long 0, .int 0, .ref h0_39, .ref h0_40, .int 0, .ref h0_42, .int 0, .ref h0_44, .ref h0_45, .int 0, .int 0, .int 0, .int 0, .int 0, .int 0])), (h0_2, .inl (cI, 35942, .inl (upd mrow 8 (nI mm))))] := hD
  have hI_mm : (nI mm).toInt = (mm : Int) := nI_toInt (by omega)
  refine lv_aload_n hx hb dX12_priceNow_0 rfl (lv_at hl 0 rfl) ?_
  refine va_get (D := G) (ci := 12) (v := .int 0) (C := RX12) (T := TX12) (N := 52) hx hb hts cm_X12_priceNow_0 hown hK hP 0 rfl rfl 6 (by decide) (hts _ (dmem (j := 0) rfl)) (fun _ h9 => h9) rfl dX12_priceNow_1 ?_
  refine lv_if_eq (tgt := 12) hx hb dX12_priceNow_4 (by decide) (fun _ => ?_) (fun c => absurd c (by decide))
  refine lv_bipush (v := 100) hx hb dX12_priceNow_12 (by decide) ?_
  refine lv_istore_n (lv' := [(1, .int 100), (0, .ref h0)]) hx hb dX12_priceNow_14 rfl hl (by decide) rfl (fun ls hl => ?_)
  refine lv_iconst (v := 0) hx hb dX12_priceNow_15 (by decide) ?_
  refine lv_istore_n (lv' := [(2, .int 0), (1, .int 100), (0, .ref h0)]) hx hb dX12_priceNow_16 rfl hl (by decide) rfl (fun ls hl => ?_)
  have loop17 : ∀ (n2 k1 : Nat), k1 + n2 = mm + 1 → ∀ (y3 : Int32) (H : Heap) (locs : List Loc) (ls : Array Slot), va_P G vwCl [(h0, .inr (12, [.int 0, .int 0, .ref h0_2, .ref h0_3, .ref h0_4, .ref h0_5, .int 0, .int 0, .int 0, .ref h0_9, .ref h0_10, .ref h0_11, .int 0, .int 0, .int 0, .int 0, .long 0, .int (-1), .int 0, .int 0, .ref h0_20, .int 0, .ref h0_22, .ref h0_23, .int 0, .ref h0_25, .ref h0_26, .int 0, .int 0, .ref h0_29, .ref h0_30, .ref h0_31, .ref h0_32, .int 0, .long 0, .long 0, .long 0, .long 0, .int 0, .ref h0_39, .ref h0_40, .int 0, .ref h0_42, .int 0, .ref h0_44, .ref h0_45, .int 0, .int 0, .int 0, .int 0, .int 0, .int 0])), (h0_2, .inl (cI, 35942, .inl (upd mrow 8 (nI mm))))] H → va_D A [(h0, .inr (12, [.int 0, .int 0, .ref h0_2, .ref h0_3, .ref h0_4, .ref h0_5, .int 0, .int 0, .int 0, .ref h0_9, .ref h0_10, .ref h0_11, .int 0, .int 0, .int 0, .int 0, .long 0, .int (-1), .int 0, .int 0, .ref h0_20, .int 0, .ref h0_22, .ref h0_23, .int 0, .ref h0_25, .ref h0_26, .int 0, .int 0, .ref h0_29, .ref h0_30, .ref h0_31, .ref h0_32, .int 0, .long 0, .long 0, .long 0, .long 0, .int 0, .ref h0_39, .ref h0_40, .int 0, .ref h0_42, .int 0, .ref h0_44, .ref h0_45, .int 0, .int 0, .int 0, .int 0, .int 0, .int 0])), (h0_2, .inl (cI, 35942, .inl (upd mrow 8 (nI mm))))] → va_S A s.heap H locs → lv_has ls 3 [(2, .int (nI k1)), (1, .int y3), (0, .ref h0)] → W p l e ({ frames := 1, cells := 0, slots := 0, locals := 40 }) s m ([.ref h0] : List Value).toArray below meth c H locs 0 0 (MQ below (QW (RI (fun _ => True)) G A (fun q g => [(h0, .inr (12, [.int 0, .int 0, .ref h0_2, .ref h0_3, .ref h0_4, .ref h0_5, .int 0, .int 0, .int 0, .ref h0_9, .ref h0_10, .ref h0_11, .int 0, .int 0, .int 0, .int 0, .long 0, .int (-1), .int 0, .int 0, .ref h0_20, .int 0, .ref h0_22, .ref h0_23, .int 0, .ref h0_25, .ref h0_26, .int 0, .int 0, .ref h0_29, .ref h0_30, .ref h0_31, .ref h0_32, .int 0, .long 0, .long 0, .long 0, .long 0, .int 0, .ref h0_39, .ref h0_40, .int 0, .ref h0_42, .int 0, .ref h0_44, .ref h0_45, .int 0, .int 0, .int 0, .int 0, .int 0, .int 0])), (h0_2, .inl (cI, 35942, .inl (upd mrow 8 (nI mm))))])) ([.ref h0] : List Value).toArray s 0 0 A) (F0 m 17 ls []) := by
    intro n2
    induction n2 with
    | zero =>
      intro k1 hk y3 H locs ls hP hD hS hl
      have hkI : (nI k1).toInt = (k1 : Int) := nI_toInt (by omega)
      refine lv_iload_n hx hb dX12_priceNow_17 rfl (lv_at hl 0 rfl) ?_
      refine lv_aload_n hx hb dX12_priceNow_18 rfl (lv_at hl 2 rfl) ?_
      refine va_get (D := G) (ci := 12) (v := .ref h0_2) (C := RX12) (T := TX12) (N := 52) hx hb hts cm_X12_priceNow_0 hown hK hP 0 rfl rfl 2 (by decide) (hts _ (dmem (j := 1) rfl)) (fun _ h9 => h9) rfl dX12_priceNow_19 ?_
      refine lv_bipush (v := 8) hx hb dX12_priceNow_22 (by decide) ?_
      refine va_iald hx hb hK hP 1 0 rfl rfl (vp_in_iff.mpr (by decide)) dX12_priceNow_24 ?_
      refine lv_topi (fun x4 ex4 => ?_)
      obtain rfl : (nI mm) = x4 := (ex4.trans (by first | rfl | decide | (simp [upd, mrow]; done))).symm
      refine lv_icmp_gt (tgt := 64) hx hb dX12_priceNow_25 (by decide) (fun _ => ?_) (fun c => absurd (nI_lt (by omega) (by omega)) c)
      refine lv_iload_n hx hb dX12_priceNow_64 rfl (lv_at hl 1 rfl) ?_
      exact retI hx hb hr hlocks ⟨_, rfl, trivial⟩ hP hD hS (fun _ => 0) (fun _ _ => 0) [0, 1] (by decide +kernel) rfl dX12_priceNow_65
    | succ n2 ih =>
      intro k1 hk y3 H locs ls hP hD hS hl
      have hkI : (nI k1).toInt = (k1 : Int) := nI_toInt (by omega)
      refine lv_iload_n hx hb dX12_priceNow_17 rfl (lv_at hl 0 rfl) ?_
      refine lv_aload_n hx hb dX12_priceNow_18 rfl (lv_at hl 2 rfl) ?_
      refine va_get (D := G) (ci := 12) (v := .ref h0_2) (C := RX12) (T := TX12) (N := 52) hx hb hts cm_X12_priceNow_0 hown hK hP 0 rfl rfl 2 (by decide) (hts _ (dmem (j := 1) rfl)) (fun _ h9 => h9) rfl dX12_priceNow_19 ?_
      refine lv_bipush (v := 8) hx hb dX12_priceNow_22 (by decide) ?_
      refine va_iald hx hb hK hP 1 0 rfl rfl (vp_in_iff.mpr (by decide)) dX12_priceNow_24 ?_
      refine lv_topi (fun x5 ex5 => ?_)
      obtain rfl : (nI mm) = x5 := (ex5.trans (by first | rfl | decide | (simp [upd, mrow]; done))).symm
      refine lv_icmp_gt (tgt := 64) hx hb dX12_priceNow_25 (by decide) (fun c => absurd c (nI_nlt (by omega) (by omega))) (fun _ => ?_)
      refine lv_aload_n hx hb dX12_priceNow_28 rfl (lv_at hl 2 rfl) ?_
      refine va_get (D := G) (ci := 12) (v := .ref h0_2) (C := RX12) (T := TX12) (N := 52) hx hb hts cm_X12_priceNow_0 hown hK hP 0 rfl rfl 2 (by decide) (hts _ (dmem (j := 1) rfl)) (fun _ h9 => h9) rfl dX12_priceNow_29 ?_
      refine lv_sipush (v := 1182) hx hb dX12_priceNow_32 (by decide) ?_
      refine lv_iload_n hx hb dX12_priceNow_35 rfl (lv_at hl 0 rfl) ?_
      refine lv_iadd hx hb dX12_priceNow_36 ?_
      refine lv_topi (fun x6 ex6 => ?_)
      have fx6 : x6.toInt = 1182 + (nI k1).toInt := by rw [ex6]; exact add32 (show Int32.toInt (1182) = 1182 from by decide) (rfl : Int32.toInt ((nI k1)) = (nI k1).toInt) (by omega) (by omega)
      refine va_iald hx hb hK hP 1 0 rfl rfl (vp_in_iff.mpr (by omega)) dX12_priceNow_37 ?_
      refine lv_topi (fun x7 ex7 => ?_)
      refine lv_if_le (tgt := 56) hx hb dX12_priceNow_38 (by decide) (fun c8 => ?_) (fun c8 => ?_)
      · refine lv_iload_n hx hb dX12_priceNow_56 rfl (lv_at hl 1 rfl) ?_
        refine lv_istore_n (lv' := [(1, .int y3), (2, .int (nI k1)), (0, .ref h0)]) hx hb dX12_priceNow_57 rfl hl (by decide) rfl (fun ls hl => ?_)
        refine lv_iinc (v := (nI (k1 + 1))) (lv' := [(2, .int (nI (k1 + 1))), (1, .int y3), (0, .ref h0)]) hx hb dX12_priceNow_58 hl (k := 1) rfl (nI_1 k1) (by decide) rfl (fun ls hl => ?_)
        refine lv_goto (tgt := 17) hx hb dX12_priceNow_61 (by decide) ?_
        exact ih (k1 + 1) (by omega) _ _ _ _ (P_subm hP [0, 1] rfl) (hD.sub [0, 1] (by decide +kernel) rfl) hS (lv_sub hl [0, 1, 2] rfl)
      · refine lv_aload_n hx hb dX12_priceNow_41 rfl (lv_at hl 2 rfl) ?_
        refine va_get (D := G) (ci := 12) (v := .ref h0_2) (C := RX12) (T := TX12) (N := 52) hx hb hts cm_X12_priceNow_0 hown hK hP 0 rfl rfl 2 (by decide) (hts _ (dmem (j := 1) rfl)) (fun _ h9 => h9) rfl dX12_priceNow_42 ?_
        refine lv_sipush (v := 1182) hx hb dX12_priceNow_45 (by decide) ?_
        refine lv_iload_n hx hb dX12_priceNow_48 rfl (lv_at hl 0 rfl) ?_
        refine lv_iadd hx hb dX12_priceNow_49 ?_
        refine lv_topi (fun x9 ex9 => ?_)
        have fx9 : x9.toInt = 1182 + (nI k1).toInt := by rw [ex9]; exact add32 (show Int32.toInt (1182) = 1182 from by decide) (rfl : Int32.toInt ((nI k1)) = (nI k1).toInt) (by omega) (by omega)
        refine va_iald hx hb hK hP 1 0 rfl rfl (vp_in_iff.mpr (by omega)) dX12_priceNow_50 ?_
        refine lv_topi (fun x10 ex10 => ?_)
        refine lv_iconst (v := 1) hx hb dX12_priceNow_51 (by decide) ?_
        refine lv_isub hx hb dX12_priceNow_52 ?_
        refine lv_topi (fun x11 ex11 => ?_)
        refine lv_goto (tgt := 57) hx hb dX12_priceNow_53 (by decide) ?_
        refine lv_istore_n (lv' := [(1, .int x11), (2, .int (nI k1)), (0, .ref h0)]) hx hb dX12_priceNow_57 rfl hl (by decide) rfl (fun ls hl => ?_)
        refine lv_iinc (v := (nI (k1 + 1))) (lv' := [(2, .int (nI (k1 + 1))), (1, .int x11), (0, .ref h0)]) hx hb dX12_priceNow_58 hl (k := 1) rfl (nI_1 k1) (by decide) rfl (fun ls hl => ?_)
        refine lv_goto (tgt := 17) hx hb dX12_priceNow_61 (by decide) ?_
        exact ih (k1 + 1) (by omega) _ _ _ _ (P_subm hP [0, 1] rfl) (hD.sub [0, 1] (by decide +kernel) rfl) hS (lv_sub hl [0, 1, 2] rfl)
  exact loop17 _ 0 (Nat.zero_add _) _ _ _ _ hP hD hS hl
def d_X12_findForce_v1 : List Cond := [Cond.fieldLink RX12 8 "NoRentModel" "row" "[I", Cond.fieldLink RX12 57 "NoRentModel" "isStruck" "[Z"]
def v_X12_findForce_v1 : List Cond := Cond.code yX12_findForce cX12_findForce 5 none :: (d_X12_findForce_v1 ++ (wsX120 ++ ([] : List Cond)))
theorem cm_X12_findForce_v1_0 : ∀ w ∈ wsX120, w ∈ v_X12_findForce_v1 := fun _ h => List.mem_cons_of_mem _ (List.mem_append_right _ (List.mem_append_left _ h))
theorem gd_X12_findForce_v1 : Gd v_X12_findForce_v1 := gd_mk (by decide +kernel) (gd_app gd_X12 gd_nil)
set_option maxHeartbeats 4000000 in
set_option maxRecDepth 100000 in
theorem c_X12_findForce_v1 (l : Launch) (G : va_G) (cI cJ cZ cD cR cT : ClassId) (h0 : Nat) (nm1 : Nat) (h0_2 : Nat) (h0_3 : Nat) (h0_4 : Nat) (h0_5 : Nat) (h0_9 : Nat) (h0_10 : Nat) (h0_11 : Nat) (h0_20 : Nat) (h0_22 : Nat) (h0_23 : Nat) (h0_25 : Nat) (h0_26 : Nat) (h0_29 : Nat) (h0_30 : Nat) (h0_31 : Nat) (h0_32 : Nat) (h0_39 : Nat) (h0_40 : Nat) (h0_42 : Nat) (h0_44 : Nat) (h0_45 : Nat) (fn1 : Nat → Int32) (sz : Nat) (hn_nm1 : nm1 ≤ 398) : Met l yX12_findForce v_X12_findForce_v1 ({ frames := 1, cells := 0, slots := 0, locals := 40 }) (va_Pc [.ref h0, .int (nI nm1)] (PreW G (tys6 cI cJ cZ cD cR cT) [(h0, .inr (12, [.int 0, .int 0, .ref h0_2, .ref h0_3, .ref h0_4, .ref h0_5, .int 0, .int 0, .int 0, .ref h0_9, .ref h0_10, .ref h0_11, .int 0, .int 0, .int 0, .int 0, .long 0, .int (-1), .int 0, .int 0, .ref h0_20, .int 0, .ref h0_22, .ref h0_23, .int 0, .ref h0_25, .ref h0_26, .int 0, .int 0, .ref h0_29, .ref h0_30, .ref h0_31, .ref h0_32, .int 0, .long 0, .long 0, .long 0, .long 0, .int 0, .ref h0_39, .ref h0_40, .int 0, .ref h0_42, .int 0, .ref h0_44, .ref h0_45, .int 0, .int 0, .int 0, .int 0, .int 0, .int 0])), (h0_2, .inl (cI, 35942, .inl (upd mrow 8 (nI nm1)))), (h0_30, .inl (cZ, 240, .inl fn1))] sz)) (QW RV G (va_A [(h0, .inr (12, [.int 0, .int 0, .ref h0_2, .ref h0_3, .ref h0_4, .ref h0_5, .int 0, .int 0, .int 0, .ref h0_9, .ref h0_10, .ref h0_11, .int 0, .int 0, .int 0, .int 0, .long 0, .int (-1), .int 0, .int 0, .ref h0_20, .int 0, .ref h0_22, .ref h0_23, .int 0, .ref h0_25, .ref h0_26, .int 0, .int 0, .ref h0_29, .ref h0_30, .ref h0_31, .ref h0_32, .int 0, .long 0, .long 0, .long 0, .long 0, .int 0, .ref h0_39, .ref h0_40, .int 0, .ref h0_42, .int 0, .ref h0_44, .ref h0_45, .int 0, .int 0, .int 0, .int 0, .int 0, .int 0])), (h0_2, .inl (cI, 35942, .inl (upd mrow 8 (nI nm1)))), (h0_30, .inl (cZ, 240, .inl fn1))] sz) (fun q g => [(h0, .inr (12, [.int 0, .int 0, .ref h0_2, .ref h0_3, .ref h0_4, .ref h0_5, .int 0, .int 0, .int 0, .ref h0_9, .ref h0_10, .ref h0_11, .int 0, .int 0, .int 0, .int 0, .long 0, .int (-1), .int 0, .int 0, .ref h0_20, .int 0, .ref h0_22, .ref h0_23, .int 0, .ref h0_25, .ref h0_26, .int 0, .int 0, .ref h0_29, .ref h0_30, .ref h0_31, .ref h0_32, .int 0, .long 0, .long 0, .long 0, .long 0, .int 0, .ref h0_39, .ref h0_40, .int 0, .ref h0_42, .int 0, .ref h0_44, .ref h0_45, .int 0, .int 0, .int 0, .int 0, .int 0, .int 0])), (h0_2, .inl (cI, 35942, .inl (upd mrow 8 (nI nm1)))), (h0_30, .inl (cZ, 240, .inl (g 0)))])) 0 0 (va_A [(h0, .inr (12, [.int 0, .int 0, .ref h0_2, .ref h0_3, .ref h0_4, .ref h0_5, .int 0, .int 0, .int 0, .ref h0_9, .ref h0_10, .ref h0_11, .int 0, .int 0, .int 0, .int 0, .long 0, .int (-1), .int 0, .int 0, .ref h0_20, .int 0, .ref h0_22, .ref h0_23, .int 0, .ref h0_25, .ref h0_26, .int 0, .int 0, .ref h0_29, .ref h0_30, .ref h0_31, .ref h0_32, .int 0, .long 0, .long 0, .long 0, .long 0, .int 0, .ref h0_39, .ref h0_40, .int 0, .ref h0_42, .int 0, .ref h0_44, .ref h0_45, .int 0, .int 0, .int 0, .int 0, .int 0, .int 0])), (h0_2, .inl (cI, 35942, .inl (upd mrow 8 (nI nm1)))), (h0_30, .inl (cZ, 240, .inl fn1))] sz) := by
  refine metW (cc := cX12_findForce) (maxL := 5) (ret := none) (by decide) rfl (Nat.le_of_ble_eq_true rfl) ?_
  intro p e s m below meth c A ls hx hb hr hml hown hts hlocks hin hKK hP hD hA hS hl
  have hK := hKK.1
  have hown : s.vm.findClass RX12 = some m.cls := hown
  have hl : lv_has ls 5 [(0, .ref h0), (1, .int (nI nm1))] := hl
  have hP : va_P G vwCl [(h0, .inr (12, [.int 0, .int 0, .ref h0_2, .ref h0_3, .ref h0_4, .ref h0_5, .int 0, .int 0, .int 0, .ref h0_9, .ref h0_10, .ref h0_11, .int 0, .int 0, .int 0, .int 0, .long 0, .int (-1), .int 0, .int 0, .ref h0_20, .int 0, .ref h0_22, .ref h0_23, .int 0, .ref h0_25, .ref h0_26, .int 0, .int 0, .ref h0_29, .ref h0_30, .ref h0_31, .ref h0_32, .int 0, .long 0, .long 0, .long 0, .long 0, .int 0, .ref h0_39, .ref h0_40, .int 0, .ref h0_42, .int 0, .ref h0_44, .ref h0_45, .int 0, .int 0, .int 0, .int 0, .int 0, .int 0])), (h0_2, .inl (cI, 35942, .inl (upd mrow 8 (nI nm1)))), (h0_30, .inl (cZ, 240, .inl fn1))] s.heap := hP
  have hD : va_D A [(h0, .inr (12, [.int 0, .int 0, .ref h0_2, .ref h0_3, .ref h0_4, .ref h0_5, .int 0, .int 0, .int 0, .ref h0_9, .ref h0_10, .ref h0_11, .int 0, .int 0, .int 0, .int 0, .long 0, .int (-1), .int 0, .int 0, .ref h0_20, .int 0, .ref h0_22, .ref h0_23, .int 0, .ref h0_25, .ref h0_26, .int 0, .int 0, .ref h0_29, .ref h0_30, .ref h0_31, .ref h0_32, .int 0, .long 0, .long 0, .long 0, .long 0, .int 0, .ref h0_39, .ref h0_40, .int 0, .ref h0_42, .int 0, .ref h0_44, .ref h0_45, .int 0, .int 0, .int 0, .int 0, .int 0, .int 0])), (h0_2, .inl (cI, 35942, .inl (upd mrow 8 (nI nm1)))), (h0_30, .inl (cZ, 240, .inl fn1))] := hD
  have hI_nm1 : (nI nm1).toInt = (nm1 : Int) := nI_toInt (by omega)
  refine lv_iconst (v := 0) hx hb dX12_findForce_0 (by decide) ?_
  refine lv_istore_n (lv' := [(2, .int 0), (0, .ref h0), (1, .int (nI nm1))]) hx hb dX12_findForce_1 rfl hl (by decide) rfl (fun ls hl => ?_)
  have loop2 : ∀ (n2 k1 : Nat), k1 + n2 = 240 → ∀ (z3 : Nat → Int32) (H : Heap) (locs : List Loc) (ls : Array Slot), va_P G vwCl [(h0, .inr (12, [.int 0, .int 0, .ref h0_2, .ref h0_3, .ref h0_4, .ref h0_5, .int 0, .int 0, .int 0, .ref h0_9, .ref h0_10, .ref h0_11, .int 0, .int 0, .int 0, .int 0, .long 0, .int (-1), .int 0, .int 0, .ref h0_20, .int 0, .ref h0_22, .ref h0_23, .int 0, .ref h0_25, .ref h0_26, .int 0, .int 0, .ref h0_29, .ref h0_30, .ref h0_31, .ref h0_32, .int 0, .long 0, .long 0, .long 0, .long 0, .int 0, .ref h0_39, .ref h0_40, .int 0, .ref h0_42, .int 0, .ref h0_44, .ref h0_45, .int 0, .int 0, .int 0, .int 0, .int 0, .int 0])), (h0_2, .inl (cI, 35942, .inl (upd mrow 8 (nI nm1)))), (h0_30, .inl (cZ, 240, .inl z3))] H → va_D A [(h0, .inr (12, [.int 0, .int 0, .ref h0_2, .ref h0_3, .ref h0_4, .ref h0_5, .int 0, .int 0, .int 0, .ref h0_9, .ref h0_10, .ref h0_11, .int 0, .int 0, .int 0, .int 0, .long 0, .int (-1), .int 0, .int 0, .ref h0_20, .int 0, .ref h0_22, .ref h0_23, .int 0, .ref h0_25, .ref h0_26, .int 0, .int 0, .ref h0_29, .ref h0_30, .ref h0_31, .ref h0_32, .int 0, .long 0, .long 0, .long 0, .long 0, .int 0, .ref h0_39, .ref h0_40, .int 0, .ref h0_42, .int 0, .ref h0_44, .ref h0_45, .int 0, .int 0, .int 0, .int 0, .int 0, .int 0])), (h0_2, .inl (cI, 35942, .inl (upd mrow 8 (nI nm1)))), (h0_30, .inl (cZ, 240, .inl z3))] → va_S A s.heap H locs → lv_has ls 5 [(2, .int (nI k1)), (0, .ref h0), (1, .int (nI nm1))] → W p l e ({ frames := 1, cells := 0, slots := 0, locals := 40 }) s m ([.ref h0, .int (nI nm1)] : List Value).toArray below meth c H locs 0 0 (MQ below (QW RV G A (fun q g => [(h0, .inr (12, [.int 0, .int 0, .ref h0_2, .ref h0_3, .ref h0_4, .ref h0_5, .int 0, .int 0, .int 0, .ref h0_9, .ref h0_10, .ref h0_11, .int 0, .int 0, .int 0, .int 0, .long 0, .int (-1), .int 0, .int 0, .ref h0_20, .int 0, .ref h0_22, .ref h0_23, .int 0, .ref h0_25, .ref h0_26, .int 0, .int 0, .ref h0_29, .ref h0_30, .ref h0_31, .ref h0_32, .int 0, .long 0, .long 0, .long 0, .long 0, .int 0, .ref h0_39, .ref h0_40, .int 0, .ref h0_42, .int 0, .ref h0_44, .ref h0_45, .int 0, .int 0, .int 0, .int 0, .int 0, .int 0])), (h0_2, .inl (cI, 35942, .inl (upd mrow 8 (nI nm1)))), (h0_30, .inl (cZ, 240, .inl (g 0)))])) ([.ref h0, .int (nI nm1)] : List Value).toArray s 0 0 A) (F0 m 2 ls []) := by
    intro n2
    induction n2 with
    | zero =>
      intro k1 hk z3 H locs ls hP hD hS hl
      obtain rfl : 240 = k1 := by omega
      have hl : lv_has ls 5 [(2, .int 240), (0, .ref h0), (1, .int (nI nm1))] := hl
      refine lv_iload_n hx hb dX12_findForce_2 rfl (lv_at hl 0 rfl) ?_
      refine lv_sipush (v := 240) hx hb dX12_findForce_3 (by decide) ?_
      refine lv_icmp_ge (tgt := 22) hx hb dX12_findForce_6 (by decide) (fun _ => ?_) (fun c => absurd c (by decide))
      refine lv_aload_n hx hb dX12_findForce_22 rfl (lv_at hl 1 rfl) ?_
      refine va_get (D := G) (ci := 12) (v := .ref h0_2) (C := RX12) (T := TX12) (N := 52) hx hb hts cm_X12_findForce_v1_0 hown hK hP 0 rfl rfl 2 (by decide) (hts _ (dmem (j := 0) rfl)) (fun _ h9 => h9) rfl dX12_findForce_23 ?_
      refine lv_iconst (v := 3) hx hb dX12_findForce_26 (by decide) ?_
      refine va_iald hx hb hK hP 1 0 rfl rfl (vp_in_iff.mpr (by decide)) dX12_findForce_27 ?_
      refine lv_topi (fun x4 ex4 => ?_)
      obtain rfl : 0 = x4 := (ex4.trans (by first | rfl | decide | (simp [upd, mrow]; done))).symm
      refine lv_iconst (v := 1) hx hb dX12_findForce_28 (by decide) ?_
      refine lv_isub hx hb dX12_findForce_29 ?_
      refine lv_topi (fun x5 ex5 => ?_)
      obtain rfl : (-1) = x5 := (ex5.trans (by decide)).symm
      refine lv_istore_n (lv' := [(2, .int (-1)), (0, .ref h0), (1, .int (nI nm1))]) hx hb dX12_findForce_30 rfl hl (by decide) rfl (fun ls hl => ?_)
      refine lv_iload_n hx hb dX12_findForce_31 rfl (lv_at hl 0 rfl) ?_
      refine lv_if_lt (tgt := 169) hx hb dX12_findForce_32 (by decide) (fun _ => ?_) (fun c => absurd c (by decide))
      exact retV hx hb hr hlocks rfl hP hD hS (fun _ => 0) (fun k => match k with | 0 => z3 | _ => fun _ => 0) [0, 1, 2] (by decide +kernel) rfl dX12_findForce_169
    | succ n2 ih =>
      intro k1 hk z3 H locs ls hP hD hS hl
      have hkI : (nI k1).toInt = (k1 : Int) := nI_toInt (by omega)
      refine lv_iload_n hx hb dX12_findForce_2 rfl (lv_at hl 0 rfl) ?_
      refine lv_sipush (v := 240) hx hb dX12_findForce_3 (by decide) ?_
      refine lv_icmp_ge (tgt := 22) hx hb dX12_findForce_6 (by decide) (fun c6 => ?_) (fun c6 => ?_)
      · have f7 : (240 : Int) ≤ (nI k1).toInt := Int32.le_iff_toInt_le.mp c6
        exfalso; omega
      · have f8 : ¬ ((240 : Int) ≤ (nI k1).toInt) := fun h => c6 (Int32.le_iff_toInt_le.mpr h)
        refine lv_aload_n hx hb dX12_findForce_9 rfl (lv_at hl 1 rfl) ?_
        refine va_get (D := G) (ci := 12) (v := .ref h0_30) (C := RX12) (T := TX12) (N := 52) hx hb hts cm_X12_findForce_v1_0 hown hK hP 0 rfl rfl 30 (by decide) (hts _ (dmem (j := 1) rfl)) (fun _ h9 => h9) rfl dX12_findForce_10 ?_
        refine lv_iload_n hx hb dX12_findForce_13 rfl (lv_at hl 0 rfl) ?_
        refine lv_iconst (v := 0) hx hb dX12_findForce_14 (by decide) ?_
        refine va_zast hx hb hK hP hD hS 2 2 rfl rfl (vp_in_iff.mpr (by omega)) dX12_findForce_15 (fun H locs => setW (ws' := [(h0, .inr (12, [.int 0, .int 0, .ref h0_2, .ref h0_3, .ref h0_4, .ref h0_5, .int 0, .int 0, .int 0, .ref h0_9, .ref h0_10, .ref h0_11, .int 0, .int 0, .int 0, .int 0, .long 0, .int (-1), .int 0, .int 0, .ref h0_20, .int 0, .ref h0_22, .ref h0_23, .int 0, .ref h0_25, .ref h0_26, .int 0, .int 0, .ref h0_29, .ref h0_30, .ref h0_31, .ref h0_32, .int 0, .long 0, .long 0, .long 0, .long 0, .int 0, .ref h0_39, .ref h0_40, .int 0, .ref h0_42, .int 0, .ref h0_44, .ref h0_45, .int 0, .int 0, .int 0, .int 0, .int 0, .int 0])), (h0_2, .inl (cI, 35942, .inl (upd mrow 8 (nI nm1)))), (h0_30, .inl (cZ, 240, .inl (upd z3 ((nI k1)).toNatClampNeg (vp_nar .boolean 0))))]) rfl (fun hP hD hS => ?_))
        refine lv_iinc (v := (nI (k1 + 1))) (lv' := [(2, .int (nI (k1 + 1))), (0, .ref h0), (1, .int (nI nm1))]) hx hb dX12_findForce_16 hl (k := 0) rfl (nI_1 k1) (by decide) rfl (fun ls hl => ?_)
        refine lv_goto (tgt := 2) hx hb dX12_findForce_19 (by decide) ?_
        exact ih (k1 + 1) (by omega) _ _ _ _ hP hD hS (lv_sub hl [0, 1, 2] rfl)
  exact loop2 240 0 (by omega) _ _ _ _ hP hD hS hl
def d_X12_forceNow_v1 : List Cond := [Cond.fieldLink RX12 8 "NoRentModel" "row" "[I", Cond.methodLink RX12 392 yX12_findForce, Cond.instanceMethod yX12_findForce, Cond.selects RX12 yX12_findForce yX12_findForce, Cond.initialized RX12]
def v_X12_forceNow_v1 : List Cond := Cond.code yX12_forceNow cX12_forceNow 1 none :: (d_X12_forceNow_v1 ++ (wsX120 ++ (v_X12_findForce_v1 ++ ([] : List Cond))))
theorem cm_X12_forceNow_v1_0 : ∀ w ∈ wsX120, w ∈ v_X12_forceNow_v1 := fun _ h => List.mem_cons_of_mem _ (List.mem_append_right _ (List.mem_append_left _ h))
theorem cm_X12_forceNow_v1_1 : ∀ w ∈ v_X12_findForce_v1, w ∈ v_X12_forceNow_v1 := fun _ h => List.mem_cons_of_mem _ (List.mem_append_right _ (List.mem_append_right _ (List.mem_append_left _ h)))
theorem gd_X12_forceNow_v1 : Gd v_X12_forceNow_v1 := gd_mk (by decide +kernel) (gd_app gd_X12 (gd_app gd_X12_findForce_v1 gd_nil))
set_option maxRecDepth 20000 in
theorem gv_X12_forceNow_v1_392_X12_findForce_v1 : GoodIn v_X12_forceNow_v1 (wsV RX12 392 RX12 yX12_findForce v_X12_findForce_v1) := goodIn_app (goodIn_of _ (by decide +kernel)) (gi cm_X12_forceNow_v1_1 gd_X12_findForce_v1)
set_option maxHeartbeats 4000000 in
set_option maxRecDepth 100000 in
theorem c_X12_forceNow_v1 (l : Launch) (G : va_G) (cI cJ cZ cD cR cT : ClassId) (h0 : Nat) (h0_2 : Nat) (h0_3 : Nat) (h0_4 : Nat) (h0_5 : Nat) (h0_9 : Nat) (h0_10 : Nat) (h0_11 : Nat) (h0_20 : Nat) (h0_22 : Nat) (h0_23 : Nat) (h0_25 : Nat) (h0_26 : Nat) (h0_29 : Nat) (h0_30 : Nat) (h0_31 : Nat) (h0_32 : Nat) (h0_39 : Nat) (h0_40 : Nat) (h0_42 : Nat) (h0_44 : Nat) (h0_45 : Nat) (nm1 : Nat) (fn1 : Nat → Int32) (sz : Nat) (hn_nm1 : nm1 ≤ 398) : Met l yX12_forceNow v_X12_forceNow_v1 ({ frames := 2, cells := 0, slots := 0, locals := 64 }) (va_Pc [.ref h0] (PreW G (tys6 cI cJ cZ cD cR cT) [(h0, .inr (12, [.int 0, .int 0, .ref h0_2, .ref h0_3, .ref h0_4, .ref h0_5, .int 0, .int 0, .int 0, .ref h0_9, .ref h0_10, .ref h0_11, .int 0, .int 0, .int 0, .int 0, .long 0, .int (-1), .int 0, .int 0, .ref h0_20, .int 0, .ref h0_22, .ref h0_23, .int 0, .ref h0_25, .ref h0_26, .int 0, .int 0, .ref h0_29, .ref h0_30, .ref h0_31, .ref h0_32, .int 0, .long 0, .long 0, .long 0, .long 0, .int 0, .ref h0_39, .ref h0_40, .int 0, .ref h0_42, .int 0, .ref h0_44, .ref h0_45, .int 0, .int 0, .int 0, .int 0, .int 0, .int 0])), (h0_2, .inl (cI, 35942, .inl (upd mrow 8 (nI nm1)))), (h0_30, .inl (cZ, 240, .inl fn1))] sz)) (QW RV G (va_A [(h0, .inr (12, [.int 0, .int 0, .ref h0_2, .ref h0_3, .ref h0_4, .ref h0_5, .int 0, .int 0, .int 0, .ref h0_9, .ref h0_10, .ref h0_11, .int 0, .int 0, .int 0, .int 0, .long 0, .int (-1), .int 0, .int 0, .ref h0_20, .int 0, .ref h0_22, .ref h0_23, .int 0, .ref h0_25, .ref h0_26, .int 0, .int 0, .ref h0_29, .ref h0_30, .ref h0_31, .ref h0_32, .int 0, .long 0, .long 0, .long 0, .long 0, .int 0, .ref h0_39, .ref h0_40, .int 0, .ref h0_42, .int 0, .ref h0_44, .ref h0_45, .int 0, .int 0, .int 0, .int 0, .int 0, .int 0])), (h0_2, .inl (cI, 35942, .inl (upd mrow 8 (nI nm1)))), (h0_30, .inl (cZ, 240, .inl fn1))] sz) (fun q g => [(h0, .inr (12, [.int 0, .int 0, .ref h0_2, .ref h0_3, .ref h0_4, .ref h0_5, .int 0, .int 0, .int 0, .ref h0_9, .ref h0_10, .ref h0_11, .int 0, .int 0, .int 0, .int 0, .long 0, .int (-1), .int 0, .int 0, .ref h0_20, .int 0, .ref h0_22, .ref h0_23, .int 0, .ref h0_25, .ref h0_26, .int 0, .int 0, .ref h0_29, .ref h0_30, .ref h0_31, .ref h0_32, .int 0, .long 0, .long 0, .long 0, .long 0, .int 0, .ref h0_39, .ref h0_40, .int 0, .ref h0_42, .int 0, .ref h0_44, .ref h0_45, .int 0, .int 0, .int 0, .int 0, .int 0, .int 0])), (h0_2, .inl (cI, 35942, .inl (upd mrow 8 (nI nm1)))), (h0_30, .inl (cZ, 240, .inl (g 0)))])) 0 0 (va_A [(h0, .inr (12, [.int 0, .int 0, .ref h0_2, .ref h0_3, .ref h0_4, .ref h0_5, .int 0, .int 0, .int 0, .ref h0_9, .ref h0_10, .ref h0_11, .int 0, .int 0, .int 0, .int 0, .long 0, .int (-1), .int 0, .int 0, .ref h0_20, .int 0, .ref h0_22, .ref h0_23, .int 0, .ref h0_25, .ref h0_26, .int 0, .int 0, .ref h0_29, .ref h0_30, .ref h0_31, .ref h0_32, .int 0, .long 0, .long 0, .long 0, .long 0, .int 0, .ref h0_39, .ref h0_40, .int 0, .ref h0_42, .int 0, .ref h0_44, .ref h0_45, .int 0, .int 0, .int 0, .int 0, .int 0, .int 0])), (h0_2, .inl (cI, 35942, .inl (upd mrow 8 (nI nm1)))), (h0_30, .inl (cZ, 240, .inl fn1))] sz) := by
  refine metW (cc := cX12_forceNow) (maxL := 1) (ret := none) (by decide) rfl (Nat.le_of_ble_eq_true rfl) ?_
  intro p e s m below meth c A ls hx hb hr hml hown hts hlocks hin hKK hP hD hA hS hl
  have hK := hKK.1
  have hown : s.vm.findClass RX12 = some m.cls := hown
  have hl : lv_has ls 1 [(0, .ref h0)] := hl
  have hP : va_P G vwCl [(h0, .inr (12, [.int 0, .int 0, .ref h0_2, .ref h0_3, .ref h0_4, .ref h0_5, .int 0, .int 0, .int 0, .ref h0_9, .ref h0_10, .ref h0_11, .int 0, .int 0, .int 0, .int 0, .long 0, .int (-1), .int 0, .int 0, .ref h0_20, .int 0, .ref h0_22, .ref h0_23, .int 0, .ref h0_25, .ref h0_26, .int 0, .int 0, .ref h0_29, .ref h0_30, .ref h0_31, .ref h0_32, .int 0, .long 0, .long 0, .long 0, .long 0, .int 0, .ref h0_39, .ref h0_40, .int 0, .ref h0_42, .int 0, .ref h0_44, .ref h0_45, .int 0, .int 0, .int 0, .int 0, .int 0, .int 0])), (h0_2, .inl (cI, 35942, .inl (upd mrow 8 (nI nm1)))), (h0_30, .inl (cZ, 240, .inl fn1))] s.heap := hP
  have hD : va_D A [(h0, .inr (12, [.int 0, .int 0, .ref h0_2, .ref h0_3, .ref h0_4, .ref h0_5, .int 0, .int 0, .int 0, .ref h0_9, .ref h0_10, .ref h0_11, .int 0, .int 0, .int 0, .int 0, .long 0, .int (-1), .int 0, .int 0, .ref h0_20, .int 0, .ref h0_22, .ref h0_23, .int 0, .ref h0_25, .ref h0_26, .int 0, .int 0, .ref h0_29, .ref h0_30, .ref h0_31, .ref h0_32, .int 0, .long 0, .long 0, .long 0, .long 0, .int 0, .ref h0_39, .ref h0_40, .int 0, .ref h0_42, .int 0, .ref h0_44, .ref h0_45, .int 0, .int 0, .int 0, .int 0, .int 0, .int 0])), (h0_2, .inl (cI, 35942, .inl (upd mrow 8 (nI nm1)))), (h0_30, .inl (cZ, 240, .inl fn1))] := hD
  have hI_nm1 : (nI nm1).toInt = (nm1 : Int) := nI_toInt (by omega)
  refine lv_aload_n hx hb dX12_forceNow_0 rfl (lv_at hl 0 rfl) ?_
  refine lv_aload_n hx hb dX12_forceNow_1 rfl (lv_at hl 0 rfl) ?_
  refine va_get (D := G) (ci := 12) (v := .ref h0_2) (C := RX12) (T := TX12) (N := 52) hx hb hts cm_X12_forceNow_v1_0 hown hK hP 0 rfl rfl 2 (by decide) (hts _ (dmem (j := 0) rfl)) (fun _ h9 => h9) rfl dX12_forceNow_2 ?_
  refine lv_bipush (v := 8) hx hb dX12_forceNow_5 (by decide) ?_
  refine va_iald hx hb hK hP 1 0 rfl rfl (vp_in_iff.mpr (by decide)) dX12_forceNow_7 ?_
  refine lv_topi (fun x1 ex1 => ?_)
  obtain rfl : (nI nm1) = x1 := (ex1.trans (by first | rfl | decide | (simp [upd, mrow]; done))).symm
  refine goV (As := [.int (nI nm1)]) (rest := []) (wr := []) ⟨hx, hb, hml, hown, hts⟩ (c_X12_findForce_v1 l G cI cJ cZ cD cR cT h0 nm1 h0_2 h0_3 h0_4 h0_5 h0_9 h0_10 h0_11 h0_20 h0_22 h0_23 h0_25 h0_26 h0_29 h0_30 h0_31 h0_32 h0_39 h0_40 h0_42 h0_44 h0_45 fn1 _ (by omega)) (cwV 1 hts gv_X12_forceNow_v1_392_X12_findForce_v1 rfl rfl rfl (by decide +kernel) ⟨Nat.le_of_ble_eq_true rfl, Nat.le_of_ble_eq_true rfl⟩) 0 rfl rfl rfl hKK hP hD hS hA [0, 1, 2] [] rfl rfl (by decide +kernel) (by decide +kernel) (by decide +kernel) rfl hl.1 rfl (lv_room (Nat.le_of_ble_eq_true rfl)) dX12_forceNow_8 ⟨Nat.le_of_ble_eq_true rfl, Nat.le_of_ble_eq_true rfl⟩ (fun v3 q2 gq2 H locs hv3 => appW (ws' := [(h0, .inr (12, [.int 0, .int 0, .ref h0_2, .ref h0_3, .ref h0_4, .ref h0_5, .int 0, .int 0, .int 0, .ref h0_9, .ref h0_10, .ref h0_11, .int 0, .int 0, .int 0, .int 0, .long 0, .int (-1), .int 0, .int 0, .ref h0_20, .int 0, .ref h0_22, .ref h0_23, .int 0, .ref h0_25, .ref h0_26, .int 0, .int 0, .ref h0_29, .ref h0_30, .ref h0_31, .ref h0_32, .int 0, .long 0, .long 0, .long 0, .long 0, .int 0, .ref h0_39, .ref h0_40, .int 0, .ref h0_42, .int 0, .ref h0_44, .ref h0_45, .int 0, .int 0, .int 0, .int 0, .int 0, .int 0])), (h0_2, .inl (cI, 35942, .inl (upd mrow 8 (nI nm1)))), (h0_30, .inl (cZ, 240, .inl (gq2 0)))]) rfl (fun hP hD hS => ?_))
  obtain rfl := hv3
  exact retV hx hb hr hlocks rfl hP hD hS (fun _ => 0) (fun k => match k with | 0 => (gq2 0) | _ => fun _ => 0) [0, 1, 2] (by decide +kernel) rfl dX12_forceNow_11
def d_X12_bringCrops_v1 : List Cond := [Cond.fieldLink RX12 8 "NoRentModel" "row" "[I"]
def v_X12_bringCrops_v1 : List Cond := Cond.code yX12_bringCrops cX12_bringCrops 4 none :: (d_X12_bringCrops_v1 ++ (wsX120 ++ ([] : List Cond)))
theorem cm_X12_bringCrops_v1_0 : ∀ w ∈ wsX120, w ∈ v_X12_bringCrops_v1 := fun _ h => List.mem_cons_of_mem _ (List.mem_append_right _ (List.mem_append_left _ h))
theorem gd_X12_bringCrops_v1 : Gd v_X12_bringCrops_v1 := gd_mk (by decide +kernel) (gd_app gd_X12 gd_nil)
set_option maxHeartbeats 4000000 in
set_option maxRecDepth 100000 in
theorem c_X12_bringCrops_v1 (l : Launch) (G : va_G) (cI cJ cZ cD cR cT : ClassId) (h0 : Nat) (h0_2 : Nat) (h0_3 : Nat) (h0_4 : Nat) (h0_5 : Nat) (h0_9 : Nat) (h0_10 : Nat) (h0_11 : Nat) (h0_20 : Nat) (h0_22 : Nat) (h0_23 : Nat) (h0_25 : Nat) (h0_26 : Nat) (h0_29 : Nat) (h0_30 : Nat) (h0_31 : Nat) (h0_32 : Nat) (h0_39 : Nat) (h0_40 : Nat) (h0_42 : Nat) (h0_44 : Nat) (h0_45 : Nat) (nm1 : Nat) (sz : Nat) (hn_nm1 : nm1 ≤ 398) : Met l yX12_bringCrops v_X12_bringCrops_v1 ({ frames := 1, cells := 0, slots := 0, locals := 40 }) (va_Pc [.ref h0] (PreW G (tys6 cI cJ cZ cD cR cT) [(h0, .inr (12, [.int 0, .int 0, .ref h0_2, .ref h0_3, .ref h0_4, .ref h0_5, .int 0, .int 0, .int 0, .ref h0_9, .ref h0_10, .ref h0_11, .int 0, .int 0, .int 0, .int 0, .long 0, .int (-1), .int 0, .int 0, .ref h0_20, .int 0, .ref h0_22, .ref h0_23, .int 0, .ref h0_25, .ref h0_26, .int 0, .int 0, .ref h0_29, .ref h0_30, .ref h0_31, .ref h0_32, .int 0, .long 0, .long 0, .long 0, .long 0, .int 0, .ref h0_39, .ref h0_40, .int 0, .ref h0_42, .int 0, .ref h0_44, .ref h0_45, .int 0, .int 0, .int 0, .int 0, .int 0, .int 0])), (h0_2, .inl (cI, 35942, .inl (upd mrow 8 (nI nm1))))] sz)) (QW RV G (va_A [(h0, .inr (12, [.int 0, .int 0, .ref h0_2, .ref h0_3, .ref h0_4, .ref h0_5, .int 0, .int 0, .int 0, .ref h0_9, .ref h0_10, .ref h0_11, .int 0, .int 0, .int 0, .int 0, .long 0, .int (-1), .int 0, .int 0, .ref h0_20, .int 0, .ref h0_22, .ref h0_23, .int 0, .ref h0_25, .ref h0_26, .int 0, .int 0, .ref h0_29, .ref h0_30, .ref h0_31, .ref h0_32, .int 0, .long 0, .long 0, .long 0, .long 0, .int 0, .ref h0_39, .ref h0_40, .int 0, .ref h0_42, .int 0, .ref h0_44, .ref h0_45, .int 0, .int 0, .int 0, .int 0, .int 0, .int 0])), (h0_2, .inl (cI, 35942, .inl (upd mrow 8 (nI nm1))))] sz) (fun q g => [(h0, .inr (12, [.int 0, .int 0, .ref h0_2, .ref h0_3, .ref h0_4, .ref h0_5, .int 0, .int 0, .int 0, .ref h0_9, .ref h0_10, .ref h0_11, .int 0, .int 0, .int 0, .int 0, .long 0, .int (-1), .int 0, .int 0, .ref h0_20, .int 0, .ref h0_22, .ref h0_23, .int 0, .ref h0_25, .ref h0_26, .int 0, .int 0, .ref h0_29, .ref h0_30, .ref h0_31, .ref h0_32, .int 0, .long 0, .long 0, .long 0, .long 0, .int 0, .ref h0_39, .ref h0_40, .int 0, .ref h0_42, .int 0, .ref h0_44, .ref h0_45, .int 0, .int 0, .int 0, .int 0, .int 0, .int 0])), (h0_2, .inl (cI, 35942, .inl (upd mrow 8 (nI nm1))))])) 0 0 (va_A [(h0, .inr (12, [.int 0, .int 0, .ref h0_2, .ref h0_3, .ref h0_4, .ref h0_5, .int 0, .int 0, .int 0, .ref h0_9, .ref h0_10, .ref h0_11, .int 0, .int 0, .int 0, .int 0, .long 0, .int (-1), .int 0, .int 0, .ref h0_20, .int 0, .ref h0_22, .ref h0_23, .int 0, .ref h0_25, .ref h0_26, .int 0, .int 0, .ref h0_29, .ref h0_30, .ref h0_31, .ref h0_32, .int 0, .long 0, .long 0, .long 0, .long 0, .int 0, .ref h0_39, .ref h0_40, .int 0, .ref h0_42, .int 0, .ref h0_44, .ref h0_45, .int 0, .int 0, .int 0, .int 0, .int 0, .int 0])), (h0_2, .inl (cI, 35942, .inl (upd mrow 8 (nI nm1))))] sz) := by
  refine metW (cc := cX12_bringCrops) (maxL := 4) (ret := none) (by decide) rfl (Nat.le_of_ble_eq_true rfl) ?_
  intro p e s m below meth c A ls hx hb hr hml hown hts hlocks hin hKK hP hD hA hS hl
  have hK := hKK.1
  have hown : s.vm.findClass RX12 = some m.cls := hown
  have hl : lv_has ls 4 [(0, .ref h0)] := hl
  have hP : va_P G vwCl [(h0, .inr (12, [.int 0, .int 0, .ref h0_2, .ref h0_3, .ref h0_4, .ref h0_5, .int 0, .int 0, .int 0, .ref h0_9, .ref h0_10, .ref h0_11, .int 0, .int 0, .int 0, .int 0, .long 0, .int (-1), .int 0, .int 0, .ref h0_20, .int 0, .ref h0_22, .ref h0_23, .int 0, .ref h0_25, .ref h0_26, .int 0, .int 0, .ref h0_29, .ref h0_30, .ref h0_31, .ref h0_32, .int 0, .long 0, .long 0, .long 0, .long 0, .int 0, .ref h0_39, .ref h0_40, .int 0, .ref h0_42, .int 0, .ref h0_44, .ref h0_45, .int 0, .int 0, .int 0, .int 0, .int 0, .int 0])), (h0_2, .inl (cI, 35942, .inl (upd mrow 8 (nI nm1))))] s.heap := hP
  have hD : va_D A [(h0, .inr (12, [.int 0, .int 0, .ref h0_2, .ref h0_3, .ref h0_4, .ref h0_5, .int 0, .int 0, .int 0, .ref h0_9, .ref h0_10, .ref h0_11, .int 0, .int 0, .int 0, .int 0, .long 0, .int (-1), .int 0, .int 0, .ref h0_20, .int 0, .ref h0_22, .ref h0_23, .int 0, .ref h0_25, .ref h0_26, .int 0, .int 0, .ref h0_29, .ref h0_30, .ref h0_31, .ref h0_32, .int 0, .long 0, .long 0, .long 0, .long 0, .int 0, .ref h0_39, .ref h0_40, .int 0, .ref h0_42, .int 0, .ref h0_44, .ref h0_45, .int 0, .int 0, .int 0, .int 0, .int 0, .int 0])), (h0_2, .inl (cI, 35942, .inl (upd mrow 8 (nI nm1))))] := hD
  have hI_nm1 : (nI nm1).toInt = (nm1 : Int) := nI_toInt (by omega)
  refine lv_iconst (v := 0) hx hb dX12_bringCrops_0 (by decide) ?_
  refine lv_istore_n (lv' := [(1, .int 0), (0, .ref h0)]) hx hb dX12_bringCrops_1 rfl hl (by decide) rfl (fun ls hl => ?_)
  refine lv_iload_n hx hb dX12_bringCrops_2 rfl (lv_at hl 0 rfl) ?_
  refine lv_aload_n hx hb dX12_bringCrops_3 rfl (lv_at hl 1 rfl) ?_
  refine va_get (D := G) (ci := 12) (v := .ref h0_2) (C := RX12) (T := TX12) (N := 52) hx hb hts cm_X12_bringCrops_v1_0 hown hK hP 0 rfl rfl 2 (by decide) (hts _ (dmem (j := 0) rfl)) (fun _ h9 => h9) rfl dX12_bringCrops_4 ?_
  refine lv_iconst (v := 2) hx hb dX12_bringCrops_7 (by decide) ?_
  refine va_iald hx hb hK hP 1 0 rfl rfl (vp_in_iff.mpr (by decide)) dX12_bringCrops_8 ?_
  refine lv_topi (fun x1 ex1 => ?_)
  obtain rfl : 0 = x1 := (ex1.trans (by first | rfl | decide | (simp [upd, mrow]; done))).symm
  refine lv_icmp_ge (tgt := 124) hx hb dX12_bringCrops_9 (by decide) (fun _ => ?_) (fun c => absurd c (by decide))
  exact retV hx hb hr hlocks rfl hP hD hS (fun _ => 0) (fun _ _ => 0) [0, 1] (by decide +kernel) rfl dX12_bringCrops_124
def d_X12_payRents_v1 : List Cond := [Cond.methodLink RX12 399 yX12_priceNow, Cond.instanceMethod yX12_priceNow, Cond.selects RX12 yX12_priceNow yX12_priceNow, Cond.initialized RX12, Cond.fieldLink RX12 8 "NoRentModel" "row" "[I"]
def v_X12_payRents_v1 : List Cond := Cond.code yX12_payRents cX12_payRents 9 none :: (d_X12_payRents_v1 ++ (v_X12_priceNow ++ (wsX120 ++ ([] : List Cond))))
theorem cm_X12_payRents_v1_0 : ∀ w ∈ v_X12_priceNow, w ∈ v_X12_payRents_v1 := fun _ h => List.mem_cons_of_mem _ (List.mem_append_right _ (List.mem_append_left _ h))
theorem cm_X12_payRents_v1_1 : ∀ w ∈ wsX120, w ∈ v_X12_payRents_v1 := fun _ h => List.mem_cons_of_mem _ (List.mem_append_right _ (List.mem_append_right _ (List.mem_append_left _ h)))
theorem gd_X12_payRents_v1 : Gd v_X12_payRents_v1 := gd_mk (by decide +kernel) (gd_app gd_X12_priceNow (gd_app gd_X12 gd_nil))
set_option maxRecDepth 20000 in
theorem gv_X12_payRents_v1_399_X12_priceNow : GoodIn v_X12_payRents_v1 (wsV RX12 399 RX12 yX12_priceNow v_X12_priceNow) := goodIn_app (goodIn_of _ (by decide +kernel)) (gi cm_X12_payRents_v1_0 gd_X12_priceNow)
set_option maxHeartbeats 4000000 in
set_option maxRecDepth 100000 in
theorem c_X12_payRents_v1 (l : Launch) (G : va_G) (cI cJ cZ cD cR cT : ClassId) (h0 : Nat) (h0_2 : Nat) (h0_3 : Nat) (h0_4 : Nat) (h0_5 : Nat) (h0_9 : Nat) (h0_10 : Nat) (h0_11 : Nat) (h0_20 : Nat) (h0_22 : Nat) (h0_23 : Nat) (h0_25 : Nat) (h0_26 : Nat) (h0_29 : Nat) (h0_30 : Nat) (h0_31 : Nat) (h0_32 : Nat) (h0_39 : Nat) (h0_40 : Nat) (h0_42 : Nat) (h0_44 : Nat) (h0_45 : Nat) (nm1 : Nat) (sz : Nat) (hn_nm1 : nm1 ≤ 398) : Met l yX12_payRents v_X12_payRents_v1 ({ frames := 2, cells := 0, slots := 0, locals := 62 }) (va_Pc [.ref h0] (PreW G (tys6 cI cJ cZ cD cR cT) [(h0, .inr (12, [.int 0, .int 0, .ref h0_2, .ref h0_3, .ref h0_4, .ref h0_5, .int 0, .int 0, .int 0, .ref h0_9, .ref h0_10, .ref h0_11, .int 0, .int 0, .int 0, .int 0, .long 0, .int (-1), .int 0, .int 0, .ref h0_20, .int 0, .ref h0_22, .ref h0_23, .int 0, .ref h0_25, .ref h0_26, .int 0, .int 0, .ref h0_29, .ref h0_30, .ref h0_31, .ref h0_32, .int 0, .long 0, .long 0, .long 0, .long 0, .int 0, .ref h0_39, .ref h0_40, .int 0, .ref h0_42, .int 0, .ref h0_44, .ref h0_45, .int 0, .int 0, .int 0, .int 0, .int 0, .int 0])), (h0_2, .inl (cI, 35942, .inl (upd mrow 8 (nI nm1))))] sz)) (QW RV G (va_A [(h0, .inr (12, [.int 0, .int 0, .ref h0_2, .ref h0_3, .ref h0_4, .ref h0_5, .int 0, .int 0, .int 0, .ref h0_9, .ref h0_10, .ref h0_11, .int 0, .int 0, .int 0, .int 0, .long 0, .int (-1), .int 0, .int 0, .ref h0_20, .int 0, .ref h0_22, .ref h0_23, .int 0, .ref h0_25, .ref h0_26, .int 0, .int 0, .ref h0_29, .ref h0_30, .ref h0_31, .ref h0_32, .int 0, .long 0, .long 0, .long 0, .long 0, .int 0, .ref h0_39, .ref h0_40, .int 0, .ref h0_42, .int 0, .ref h0_44, .ref h0_45, .int 0, .int 0, .int 0, .int 0, .int 0, .int 0])), (h0_2, .inl (cI, 35942, .inl (upd mrow 8 (nI nm1))))] sz) (fun q g => [(h0, .inr (12, [.int 0, .int 0, .ref h0_2, .ref h0_3, .ref h0_4, .ref h0_5, .int 0, .int 0, .int 0, .ref h0_9, .ref h0_10, .ref h0_11, .int 0, .int 0, .int 0, .int 0, .long 0, .int (-1), .int 0, .int 0, .ref h0_20, .int 0, .ref h0_22, .ref h0_23, .int 0, .ref h0_25, .ref h0_26, .int 0, .int 0, .ref h0_29, .ref h0_30, .ref h0_31, .ref h0_32, .int 0, .long 0, .long 0, .long 0, .long 0, .int 0, .ref h0_39, .ref h0_40, .int 0, .ref h0_42, .int 0, .ref h0_44, .ref h0_45, .int 0, .int 0, .int 0, .int 0, .int 0, .int 0])), (h0_2, .inl (cI, 35942, .inl (upd mrow 8 (nI nm1))))])) 0 0 (va_A [(h0, .inr (12, [.int 0, .int 0, .ref h0_2, .ref h0_3, .ref h0_4, .ref h0_5, .int 0, .int 0, .int 0, .ref h0_9, .ref h0_10, .ref h0_11, .int 0, .int 0, .int 0, .int 0, .long 0, .int (-1), .int 0, .int 0, .ref h0_20, .int 0, .ref h0_22, .ref h0_23, .int 0, .ref h0_25, .ref h0_26, .int 0, .int 0, .ref h0_29, .ref h0_30, .ref h0_31, .ref h0_32, .int 0, .long 0, .long 0, .long 0, .long 0, .int 0, .ref h0_39, .ref h0_40, .int 0, .ref h0_42, .int 0, .ref h0_44, .ref h0_45, .int 0, .int 0, .int 0, .int 0, .int 0, .int 0])), (h0_2, .inl (cI, 35942, .inl (upd mrow 8 (nI nm1))))] sz) := by
  refine metW (cc := cX12_payRents) (maxL := 9) (ret := none) (by decide) rfl (Nat.le_of_ble_eq_true rfl) ?_
  intro p e s m below meth c A ls hx hb hr hml hown hts hlocks hin hKK hP hD hA hS hl
  have hK := hKK.1
  have hown : s.vm.findClass RX12 = some m.cls := hown
  have hl : lv_has ls 9 [(0, .ref h0)] := hl
  have hP : va_P G vwCl [(h0, .inr (12, [.int 0, .int 0, .ref h0_2, .ref h0_3, .ref h0_4, .ref h0_5, .int 0, .int 0, .int 0, .ref h0_9, .ref h0_10, .ref h0_11, .int 0, .int 0, .int 0, .int 0, .long 0, .int (-1), .int 0, .int 0, .ref h0_20, .int 0, .ref h0_22, .ref h0_23, .int 0, .ref h0_25, .ref h0_26, .int 0, .int 0, .ref h0_29, .ref h0_30, .ref h0_31, .ref h0_32, .int 0, .long 0, .long 0, .long 0, .long 0, .int 0, .ref h0_39, .ref h0_40, .int 0, .ref h0_42, .int 0, .ref h0_44, .ref h0_45, .int 0, .int 0, .int 0, .int 0, .int 0, .int 0])), (h0_2, .inl (cI, 35942, .inl (upd mrow 8 (nI nm1))))] s.heap := hP
  have hD : va_D A [(h0, .inr (12, [.int 0, .int 0, .ref h0_2, .ref h0_3, .ref h0_4, .ref h0_5, .int 0, .int 0, .int 0, .ref h0_9, .ref h0_10, .ref h0_11, .int 0, .int 0, .int 0, .int 0, .long 0, .int (-1), .int 0, .int 0, .ref h0_20, .int 0, .ref h0_22, .ref h0_23, .int 0, .ref h0_25, .ref h0_26, .int 0, .int 0, .ref h0_29, .ref h0_30, .ref h0_31, .ref h0_32, .int 0, .long 0, .long 0, .long 0, .long 0, .int 0, .ref h0_39, .ref h0_40, .int 0, .ref h0_42, .int 0, .ref h0_44, .ref h0_45, .int 0, .int 0, .int 0, .int 0, .int 0, .int 0])), (h0_2, .inl (cI, 35942, .inl (upd mrow 8 (nI nm1))))] := hD
  have hI_nm1 : (nI nm1).toInt = (nm1 : Int) := nI_toInt (by omega)
  refine lv_aload_n hx hb dX12_payRents_0 rfl (lv_at hl 0 rfl) ?_
  refine goV (As := []) (rest := []) (wr := []) ⟨hx, hb, hml, hown, hts⟩ (c_X12_priceNow l G cI cJ cZ cD cR cT h0 h0_2 h0_3 h0_4 h0_5 h0_9 h0_10 h0_11 h0_20 h0_22 h0_23 h0_25 h0_26 h0_29 h0_30 h0_31 h0_32 h0_39 h0_40 h0_42 h0_44 h0_45 nm1 _ (by omega)) (cwV 0 hts gv_X12_payRents_v1_399_X12_priceNow rfl rfl rfl (by decide +kernel) ⟨Nat.le_of_ble_eq_true rfl, Nat.le_of_ble_eq_true rfl⟩) 0 rfl rfl rfl hKK hP hD hS hA [0, 1] [] rfl rfl (by decide +kernel) (by decide +kernel) (by decide +kernel) rfl hl.1 rfl (lv_room (Nat.le_of_ble_eq_true rfl)) dX12_payRents_1 ⟨Nat.le_of_ble_eq_true rfl, Nat.le_of_ble_eq_true rfl⟩ (fun v2 q1 gq1 H locs hv2 => appW (ws' := [(h0, .inr (12, [.int 0, .int 0, .ref h0_2, .ref h0_3, .ref h0_4, .ref h0_5, .int 0, .int 0, .int 0, .ref h0_9, .ref h0_10, .ref h0_11, .int 0, .int 0, .int 0, .int 0, .long 0, .int (-1), .int 0, .int 0, .ref h0_20, .int 0, .ref h0_22, .ref h0_23, .int 0, .ref h0_25, .ref h0_26, .int 0, .int 0, .ref h0_29, .ref h0_30, .ref h0_31, .ref h0_32, .int 0, .long 0, .long 0, .long 0, .long 0, .int 0, .ref h0_39, .ref h0_40, .int 0, .ref h0_42, .int 0, .ref h0_44, .ref h0_45, .int 0, .int 0, .int 0, .int 0, .int 0, .int 0])), (h0_2, .inl (cI, 35942, .inl (upd mrow 8 (nI nm1))))]) rfl (fun hP hD hS => ?_))
  obtain ⟨r3, rfl, -⟩ := hv2
  refine lv_istore_n (lv' := [(1, .int r3), (0, .ref h0)]) hx hb dX12_payRents_4 rfl hl (by decide) rfl (fun ls hl => ?_)
  refine lv_iconst (v := 0) hx hb dX12_payRents_5 (by decide) ?_
  refine lv_istore_n (lv' := [(2, .int 0), (1, .int r3), (0, .ref h0)]) hx hb dX12_payRents_6 rfl hl (by decide) rfl (fun ls hl => ?_)
  refine lv_iload_n hx hb dX12_payRents_7 rfl (lv_at hl 0 rfl) ?_
  refine lv_aload_n hx hb dX12_payRents_8 rfl (lv_at hl 2 rfl) ?_
  refine va_get (D := G) (ci := 12) (v := .ref h0_2) (C := RX12) (T := TX12) (N := 52) hx hb hts cm_X12_payRents_v1_1 hown hK hP 0 rfl rfl 2 (by decide) (hts _ (dmem (j := 4) rfl)) (fun _ h9 => h9) rfl dX12_payRents_9 ?_
  refine lv_iconst (v := 2) hx hb dX12_payRents_12 (by decide) ?_
  refine va_iald hx hb hK hP 1 0 rfl rfl (vp_in_iff.mpr (by decide)) dX12_payRents_13 ?_
  refine lv_topi (fun x4 ex4 => ?_)
  obtain rfl : 0 = x4 := (ex4.trans (by first | rfl | decide | (simp [upd, mrow]; done))).symm
  refine lv_icmp_ge (tgt := 294) hx hb dX12_payRents_14 (by decide) (fun _ => ?_) (fun c => absurd c (by decide))
  refine lv_iconst (v := 0) hx hb dX12_payRents_294 (by decide) ?_
  refine lv_istore_n (lv' := [(2, .int 0), (1, .int r3), (0, .ref h0)]) hx hb dX12_payRents_295 rfl hl (by decide) rfl (fun ls hl => ?_)
  refine lv_iload_n hx hb dX12_payRents_296 rfl (lv_at hl 0 rfl) ?_
  refine lv_aload_n hx hb dX12_payRents_297 rfl (lv_at hl 2 rfl) ?_
  refine va_get (D := G) (ci := 12) (v := .ref h0_2) (C := RX12) (T := TX12) (N := 52) hx hb hts cm_X12_payRents_v1_1 hown hK hP 0 rfl rfl 2 (by decide) (hts _ (dmem (j := 4) rfl)) (fun _ h9 => h9) rfl dX12_payRents_298 ?_
  refine lv_iconst (v := 1) hx hb dX12_payRents_301 (by decide) ?_
  refine va_iald hx hb hK hP 1 0 rfl rfl (vp_in_iff.mpr (by decide)) dX12_payRents_302 ?_
  refine lv_topi (fun x5 ex5 => ?_)
  obtain rfl : 0 = x5 := (ex5.trans (by first | rfl | decide | (simp [upd, mrow]; done))).symm
  refine lv_icmp_ge (tgt := 389) hx hb dX12_payRents_303 (by decide) (fun _ => ?_) (fun c => absurd c (by decide))
  exact retV hx hb hr hlocks rfl hP hD hS (fun _ => 0) (fun _ _ => 0) [0, 1] (by decide +kernel) rfl dX12_payRents_389
def d_X12_goWeek : List Cond := [Cond.methodLink RX12 147 yX12_forceNow, Cond.instanceMethod yX12_forceNow, Cond.selects RX12 yX12_forceNow yX12_forceNow, Cond.initialized RX12, Cond.methodLink RX12 464 yX12_bringCrops, Cond.instanceMethod yX12_bringCrops, Cond.selects RX12 yX12_bringCrops yX12_bringCrops, Cond.fieldLink RX12 8 "NoRentModel" "row" "[I", Cond.methodLink RX12 467 yX12_payRents, Cond.instanceMethod yX12_payRents, Cond.selects RX12 yX12_payRents yX12_payRents]
def v_X12_goWeek : List Cond := Cond.code yX12_goWeek cX12_goWeek 3 none :: (d_X12_goWeek ++ (v_X12_forceNow_v1 ++ (v_X12_bringCrops_v1 ++ (wsX120 ++ (v_X12_payRents_v1 ++ ([] : List Cond))))))
theorem cm_X12_goWeek_0 : ∀ w ∈ v_X12_forceNow_v1, w ∈ v_X12_goWeek := fun _ h => List.mem_cons_of_mem _ (List.mem_append_right _ (List.mem_append_left _ h))
theorem cm_X12_goWeek_1 : ∀ w ∈ v_X12_bringCrops_v1, w ∈ v_X12_goWeek := fun _ h => List.mem_cons_of_mem _ (List.mem_append_right _ (List.mem_append_right _ (List.mem_append_left _ h)))
theorem cm_X12_goWeek_2 : ∀ w ∈ wsX120, w ∈ v_X12_goWeek := fun _ h => List.mem_cons_of_mem _ (List.mem_append_right _ (List.mem_append_right _ (List.mem_append_right _ (List.mem_append_left _ h))))
theorem cm_X12_goWeek_3 : ∀ w ∈ v_X12_payRents_v1, w ∈ v_X12_goWeek := fun _ h => List.mem_cons_of_mem _ (List.mem_append_right _ (List.mem_append_right _ (List.mem_append_right _ (List.mem_append_right _ (List.mem_append_left _ h)))))
theorem gd_X12_goWeek : Gd v_X12_goWeek := gd_mk (by decide +kernel) (gd_app gd_X12_forceNow_v1 (gd_app gd_X12_bringCrops_v1 (gd_app gd_X12 (gd_app gd_X12_payRents_v1 gd_nil))))
set_option maxRecDepth 20000 in
theorem gv_X12_goWeek_147_X12_forceNow_v1 : GoodIn v_X12_goWeek (wsV RX12 147 RX12 yX12_forceNow v_X12_forceNow_v1) := goodIn_app (goodIn_of _ (by decide +kernel)) (gi cm_X12_goWeek_0 gd_X12_forceNow_v1)
set_option maxRecDepth 20000 in
theorem gv_X12_goWeek_464_X12_bringCrops_v1 : GoodIn v_X12_goWeek (wsV RX12 464 RX12 yX12_bringCrops v_X12_bringCrops_v1) := goodIn_app (goodIn_of _ (by decide +kernel)) (gi cm_X12_goWeek_1 gd_X12_bringCrops_v1)
set_option maxRecDepth 20000 in
theorem gv_X12_goWeek_467_X12_payRents_v1 : GoodIn v_X12_goWeek (wsV RX12 467 RX12 yX12_payRents v_X12_payRents_v1) := goodIn_app (goodIn_of _ (by decide +kernel)) (gi cm_X12_goWeek_3 gd_X12_payRents_v1)
set_option maxHeartbeats 4000000 in
set_option maxRecDepth 100000 in
theorem c_X12_goWeek (l : Launch) (G : va_G) (cI cJ cZ cD cR cT : ClassId) (h0 : Nat) (h0_2 : Nat) (h0_3 : Nat) (h0_4 : Nat) (h0_5 : Nat) (h0_9 : Nat) (h0_10 : Nat) (h0_11 : Nat) (h0_20 : Nat) (h0_22 : Nat) (h0_23 : Nat) (h0_25 : Nat) (h0_26 : Nat) (h0_29 : Nat) (h0_30 : Nat) (h0_31 : Nat) (h0_32 : Nat) (h0_39 : Nat) (h0_40 : Nat) (h0_42 : Nat) (h0_44 : Nat) (h0_45 : Nat) (mm : Nat) (fz : Nat → Int32) (sz : Nat) (hn_mm : mm ≤ 398) : Met l yX12_goWeek v_X12_goWeek ({ frames := 3, cells := 0, slots := 0, locals := 90 }) (va_Pc [.ref h0] (PreW G (tys6 cI cJ cZ cD cR cT) [(h0, .inr (12, [.int 0, .int 0, .ref h0_2, .ref h0_3, .ref h0_4, .ref h0_5, .int 0, .int 0, .int 0, .ref h0_9, .ref h0_10, .ref h0_11, .int 0, .int 0, .int 0, .int 0, .long 0, .int (-1), .int 0, .int 0, .ref h0_20, .int 0, .ref h0_22, .ref h0_23, .int 0, .ref h0_25, .ref h0_26, .int 0, .int 0, .ref h0_29, .ref h0_30, .ref h0_31, .ref h0_32, .int 0, .long 0, .long 0, .long 0, .long 0, .int 0, .ref h0_39, .ref h0_40, .int 0, .ref h0_42, .int 0, .ref h0_44, .ref h0_45, .int 0, .int 0, .int 0, .int 0, .int 0, .int 0])), (h0_2, .inl (cI, 35942, .inl (upd mrow 8 (nI mm)))), (h0_30, .inl (cZ, 240, .inl fz))] sz)) (QW RV G (va_A [(h0, .inr (12, [.int 0, .int 0, .ref h0_2, .ref h0_3, .ref h0_4, .ref h0_5, .int 0, .int 0, .int 0, .ref h0_9, .ref h0_10, .ref h0_11, .int 0, .int 0, .int 0, .int 0, .long 0, .int (-1), .int 0, .int 0, .ref h0_20, .int 0, .ref h0_22, .ref h0_23, .int 0, .ref h0_25, .ref h0_26, .int 0, .int 0, .ref h0_29, .ref h0_30, .ref h0_31, .ref h0_32, .int 0, .long 0, .long 0, .long 0, .long 0, .int 0, .ref h0_39, .ref h0_40, .int 0, .ref h0_42, .int 0, .ref h0_44, .ref h0_45, .int 0, .int 0, .int 0, .int 0, .int 0, .int 0])), (h0_2, .inl (cI, 35942, .inl (upd mrow 8 (nI mm)))), (h0_30, .inl (cZ, 240, .inl fz))] sz) (fun q g => [(h0, .inr (12, [.int 0, .int 0, .ref h0_2, .ref h0_3, .ref h0_4, .ref h0_5, .int 0, .int 0, .int 0, .ref h0_9, .ref h0_10, .ref h0_11, .int 0, .int 0, .int 0, .int 0, .long 0, .int (-1), .int 0, .int 0, .ref h0_20, .int 0, .ref h0_22, .ref h0_23, .int 0, .ref h0_25, .ref h0_26, .int 0, .int 0, .ref h0_29, .ref h0_30, .ref h0_31, .ref h0_32, .int 0, .long 0, .long 0, .long 0, .long 0, .int 0, .ref h0_39, .ref h0_40, .int 0, .ref h0_42, .int 0, .ref h0_44, .ref h0_45, .int 0, .int 0, .int 0, .int 0, .int 0, .int 0])), (h0_2, .inl (cI, 35942, .inl (upd mrow 8 (nI (mm + 1))))), (h0_30, .inl (cZ, 240, .inl (g 0)))])) 0 0 (va_A [(h0, .inr (12, [.int 0, .int 0, .ref h0_2, .ref h0_3, .ref h0_4, .ref h0_5, .int 0, .int 0, .int 0, .ref h0_9, .ref h0_10, .ref h0_11, .int 0, .int 0, .int 0, .int 0, .long 0, .int (-1), .int 0, .int 0, .ref h0_20, .int 0, .ref h0_22, .ref h0_23, .int 0, .ref h0_25, .ref h0_26, .int 0, .int 0, .ref h0_29, .ref h0_30, .ref h0_31, .ref h0_32, .int 0, .long 0, .long 0, .long 0, .long 0, .int 0, .ref h0_39, .ref h0_40, .int 0, .ref h0_42, .int 0, .ref h0_44, .ref h0_45, .int 0, .int 0, .int 0, .int 0, .int 0, .int 0])), (h0_2, .inl (cI, 35942, .inl (upd mrow 8 (nI mm)))), (h0_30, .inl (cZ, 240, .inl fz))] sz) := by
  refine metW (cc := cX12_goWeek) (maxL := 3) (ret := none) (by decide) rfl (Nat.le_of_ble_eq_true rfl) ?_
  intro p e s m below meth c A ls hx hb hr hml hown hts hlocks hin hKK hP hD hA hS hl
  have hK := hKK.1
  have hown : s.vm.findClass RX12 = some m.cls := hown
  have hl : lv_has ls 3 [(0, .ref h0)] := hl
  have hP : va_P G vwCl [(h0, .inr (12, [.int 0, .int 0, .ref h0_2, .ref h0_3, .ref h0_4, .ref h0_5, .int 0, .int 0, .int 0, .ref h0_9, .ref h0_10, .ref h0_11, .int 0, .int 0, .int 0, .int 0, .long 0, .int (-1), .int 0, .int 0, .ref h0_20, .int 0, .ref h0_22, .ref h0_23, .int 0, .ref h0_25, .ref h0_26, .int 0, .int 0, .ref h0_29, .ref h0_30, .ref h0_31, .ref h0_32, .int 0, .long 0, .long 0, .long 0, .long 0, .int 0, .ref h0_39, .ref h0_40, .int 0, .ref h0_42, .int 0, .ref h0_44, .ref h0_45, .int 0, .int 0, .int 0, .int 0, .int 0, .int 0])), (h0_2, .inl (cI, 35942, .inl (upd mrow 8 (nI mm)))), (h0_30, .inl (cZ, 240, .inl fz))] s.heap := hP
  have hD : va_D A [(h0, .inr (12, [.int 0, .int 0, .ref h0_2, .ref h0_3, .ref h0_4, .ref h0_5, .int 0, .int 0, .int 0, .ref h0_9, .ref h0_10, .ref h0_11, .int 0, .int 0, .int 0, .int 0, .long 0, .int (-1), .int 0, .int 0, .ref h0_20, .int 0, .ref h0_22, .ref h0_23, .int 0, .ref h0_25, .ref h0_26, .int 0, .int 0, .ref h0_29, .ref h0_30, .ref h0_31, .ref h0_32, .int 0, .long 0, .long 0, .long 0, .long 0, .int 0, .ref h0_39, .ref h0_40, .int 0, .ref h0_42, .int 0, .ref h0_44, .ref h0_45, .int 0, .int 0, .int 0, .int 0, .int 0, .int 0])), (h0_2, .inl (cI, 35942, .inl (upd mrow 8 (nI mm)))), (h0_30, .inl (cZ, 240, .inl fz))] := hD
  have hI_mm : (nI mm).toInt = (mm : Int) := nI_toInt (by omega)
  refine lv_aload_n hx hb dX12_goWeek_0 rfl (lv_at hl 0 rfl) ?_
  refine goV (As := []) (rest := []) (wr := []) ⟨hx, hb, hml, hown, hts⟩ (c_X12_forceNow_v1 l G cI cJ cZ cD cR cT h0 h0_2 h0_3 h0_4 h0_5 h0_9 h0_10 h0_11 h0_20 h0_22 h0_23 h0_25 h0_26 h0_29 h0_30 h0_31 h0_32 h0_39 h0_40 h0_42 h0_44 h0_45 mm fz _ (by omega)) (cwV 0 hts gv_X12_goWeek_147_X12_forceNow_v1 rfl rfl rfl (by decide +kernel) ⟨Nat.le_of_ble_eq_true rfl, Nat.le_of_ble_eq_true rfl⟩) 0 rfl rfl rfl hKK hP hD hS hA [0, 1, 2] [] rfl rfl (by decide +kernel) (by decide +kernel) (by decide +kernel) rfl hl.1 rfl (lv_room (Nat.le_of_ble_eq_true rfl)) dX12_goWeek_1 ⟨Nat.le_of_ble_eq_true rfl, Nat.le_of_ble_eq_true rfl⟩ (fun v2 q1 gq1 H locs hv2 => appW (ws' := [(h0, .inr (12, [.int 0, .int 0, .ref h0_2, .ref h0_3, .ref h0_4, .ref h0_5, .int 0, .int 0, .int 0, .ref h0_9, .ref h0_10, .ref h0_11, .int 0, .int 0, .int 0, .int 0, .long 0, .int (-1), .int 0, .int 0, .ref h0_20, .int 0, .ref h0_22, .ref h0_23, .int 0, .ref h0_25, .ref h0_26, .int 0, .int 0, .ref h0_29, .ref h0_30, .ref h0_31, .ref h0_32, .int 0, .long 0, .long 0, .long 0, .long 0, .int 0, .ref h0_39, .ref h0_40, .int 0, .ref h0_42, .int 0, .ref h0_44, .ref h0_45, .int 0, .int 0, .int 0, .int 0, .int 0, .int 0])), (h0_2, .inl (cI, 35942, .inl (upd mrow 8 (nI mm)))), (h0_30, .inl (cZ, 240, .inl (gq1 0)))]) rfl (fun hP hD hS => ?_))
  obtain rfl := hv2
  refine lv_aload_n hx hb dX12_goWeek_4 rfl (lv_at hl 0 rfl) ?_
  refine goV (As := []) (rest := []) (wr := [(h0_30, .inl (cZ, 240, .inl (gq1 0)))]) ⟨hx, hb, hml, hown, hts⟩ (c_X12_bringCrops_v1 l G cI cJ cZ cD cR cT h0 h0_2 h0_3 h0_4 h0_5 h0_9 h0_10 h0_11 h0_20 h0_22 h0_23 h0_25 h0_26 h0_29 h0_30 h0_31 h0_32 h0_39 h0_40 h0_42 h0_44 h0_45 mm _ (by omega)) (cwV 0 hts gv_X12_goWeek_464_X12_bringCrops_v1 rfl rfl rfl (by decide +kernel) ⟨Nat.le_of_ble_eq_true rfl, Nat.le_of_ble_eq_true rfl⟩) 0 rfl rfl rfl hKK hP hD hS hA [0, 1] [2] rfl rfl (by decide +kernel) (by decide +kernel) (by decide +kernel) rfl hl.1 rfl (lv_room (Nat.le_of_ble_eq_true rfl)) dX12_goWeek_5 ⟨Nat.le_of_ble_eq_true rfl, Nat.le_of_ble_eq_true rfl⟩ (fun v4 q3 gq3 H locs hv4 => appW (ws' := [(h0_30, .inl (cZ, 240, .inl (gq1 0))), (h0, .inr (12, [.int 0, .int 0, .ref h0_2, .ref h0_3, .ref h0_4, .ref h0_5, .int 0, .int 0, .int 0, .ref h0_9, .ref h0_10, .ref h0_11, .int 0, .int 0, .int 0, .int 0, .long 0, .int (-1), .int 0, .int 0, .ref h0_20, .int 0, .ref h0_22, .ref h0_23, .int 0, .ref h0_25, .ref h0_26, .int 0, .int 0, .ref h0_29, .ref h0_30, .ref h0_31, .ref h0_32, .int 0, .long 0, .long 0, .long 0, .long 0, .int 0, .ref h0_39, .ref h0_40, .int 0, .ref h0_42, .int 0, .ref h0_44, .ref h0_45, .int 0, .int 0, .int 0, .int 0, .int 0, .int 0])), (h0_2, .inl (cI, 35942, .inl (upd mrow 8 (nI mm))))]) rfl (fun hP hD hS => ?_))
  obtain rfl := hv4
  refine lv_aload_n hx hb dX12_goWeek_8 rfl (lv_at hl 0 rfl) ?_
  refine va_get (D := G) (ci := 12) (v := .ref h0_2) (C := RX12) (T := TX12) (N := 52) hx hb hts cm_X12_goWeek_2 hown hK hP 1 rfl rfl 2 (by decide) (hts _ (dmem (j := 7) rfl)) (fun _ h9 => h9) rfl dX12_goWeek_9 ?_
  refine lv_bipush (v := 8) hx hb dX12_goWeek_12 (by decide) ?_
  refine va_iald hx hb hK hP 2 0 rfl rfl (vp_in_iff.mpr (by decide)) dX12_goWeek_14 ?_
  refine lv_topi (fun x5 ex5 => ?_)
  obtain rfl : (nI mm) = x5 := (ex5.trans (by first | rfl | decide | (simp [upd, mrow]; done))).symm
  refine lv_bipush (v := 13) hx hb dX12_goWeek_15 (by decide) ?_
  refine lv_irem hx hb dX12_goWeek_17 (by decide) ?_
  refine lv_topi (fun x6 ex6 => ?_)
  refine lv_if_ne (tgt := 84) hx hb dX12_goWeek_18 (by decide) (fun c7 => ?_) (fun c7 => ?_)
  · refine lv_iconst (v := 0) hx hb dX12_goWeek_84 (by decide) ?_
    refine lv_istore_n (lv' := [(1, .int 0), (0, .ref h0)]) hx hb dX12_goWeek_85 rfl hl (by decide) rfl (fun ls hl => ?_)
    refine lv_iload_n hx hb dX12_goWeek_86 rfl (lv_at hl 0 rfl) ?_
    refine lv_aload_n hx hb dX12_goWeek_87 rfl (lv_at hl 1 rfl) ?_
    refine va_get (D := G) (ci := 12) (v := .ref h0_2) (C := RX12) (T := TX12) (N := 52) hx hb hts cm_X12_goWeek_2 hown hK hP 1 rfl rfl 2 (by decide) (hts _ (dmem (j := 7) rfl)) (fun _ h9 => h9) rfl dX12_goWeek_88 ?_
    refine lv_iconst (v := 4) hx hb dX12_goWeek_91 (by decide) ?_
    refine va_iald hx hb hK hP 2 0 rfl rfl (vp_in_iff.mpr (by decide)) dX12_goWeek_92 ?_
    refine lv_topi (fun x8 ex8 => ?_)
    obtain rfl : 0 = x8 := (ex8.trans (by first | rfl | decide | (simp [upd, mrow]; done))).symm
    refine lv_icmp_ge (tgt := 132) hx hb dX12_goWeek_93 (by decide) (fun _ => ?_) (fun c => absurd c (by decide))
    refine lv_iconst (v := 0) hx hb dX12_goWeek_132 (by decide) ?_
    refine lv_istore_n (lv' := [(1, .int 0), (0, .ref h0)]) hx hb dX12_goWeek_133 rfl hl (by decide) rfl (fun ls hl => ?_)
    refine lv_iload_n hx hb dX12_goWeek_134 rfl (lv_at hl 0 rfl) ?_
    refine lv_aload_n hx hb dX12_goWeek_135 rfl (lv_at hl 1 rfl) ?_
    refine va_get (D := G) (ci := 12) (v := .ref h0_2) (C := RX12) (T := TX12) (N := 52) hx hb hts cm_X12_goWeek_2 hown hK hP 1 rfl rfl 2 (by decide) (hts _ (dmem (j := 7) rfl)) (fun _ h9 => h9) rfl dX12_goWeek_136 ?_
    refine lv_iconst (v := 0) hx hb dX12_goWeek_139 (by decide) ?_
    refine va_iald hx hb hK hP 2 0 rfl rfl (vp_in_iff.mpr (by decide)) dX12_goWeek_140 ?_
    refine lv_topi (fun x9 ex9 => ?_)
    obtain rfl : 0 = x9 := (ex9.trans (by first | rfl | decide | (simp [upd, mrow]; done))).symm
    refine lv_icmp_ge (tgt := 237) hx hb dX12_goWeek_141 (by decide) (fun _ => ?_) (fun c => absurd c (by decide))
    refine lv_iconst (v := 0) hx hb dX12_goWeek_237 (by decide) ?_
    refine lv_istore_n (lv' := [(1, .int 0), (0, .ref h0)]) hx hb dX12_goWeek_238 rfl hl (by decide) rfl (fun ls hl => ?_)
    refine lv_iload_n hx hb dX12_goWeek_239 rfl (lv_at hl 0 rfl) ?_
    refine lv_aload_n hx hb dX12_goWeek_240 rfl (lv_at hl 1 rfl) ?_
    refine va_get (D := G) (ci := 12) (v := .ref h0_2) (C := RX12) (T := TX12) (N := 52) hx hb hts cm_X12_goWeek_2 hown hK hP 1 rfl rfl 2 (by decide) (hts _ (dmem (j := 7) rfl)) (fun _ h9 => h9) rfl dX12_goWeek_241 ?_
    refine lv_iconst (v := 0) hx hb dX12_goWeek_244 (by decide) ?_
    refine va_iald hx hb hK hP 2 0 rfl rfl (vp_in_iff.mpr (by decide)) dX12_goWeek_245 ?_
    refine lv_topi (fun x10 ex10 => ?_)
    obtain rfl : 0 = x10 := (ex10.trans (by first | rfl | decide | (simp [upd, mrow]; done))).symm
    refine lv_icmp_ge (tgt := 268) hx hb dX12_goWeek_246 (by decide) (fun _ => ?_) (fun c => absurd c (by decide))
    refine lv_iconst (v := 0) hx hb dX12_goWeek_268 (by decide) ?_
    refine lv_istore_n (lv' := [(1, .int 0), (0, .ref h0)]) hx hb dX12_goWeek_269 rfl hl (by decide) rfl (fun ls hl => ?_)
    refine lv_iload_n hx hb dX12_goWeek_270 rfl (lv_at hl 0 rfl) ?_
    refine lv_aload_n hx hb dX12_goWeek_271 rfl (lv_at hl 1 rfl) ?_
    refine va_get (D := G) (ci := 12) (v := .ref h0_2) (C := RX12) (T := TX12) (N := 52) hx hb hts cm_X12_goWeek_2 hown hK hP 1 rfl rfl 2 (by decide) (hts _ (dmem (j := 7) rfl)) (fun _ h9 => h9) rfl dX12_goWeek_272 ?_
    refine lv_iconst (v := 0) hx hb dX12_goWeek_275 (by decide) ?_
    refine va_iald hx hb hK hP 2 0 rfl rfl (vp_in_iff.mpr (by decide)) dX12_goWeek_276 ?_
    refine lv_topi (fun x11 ex11 => ?_)
    obtain rfl : 0 = x11 := (ex11.trans (by first | rfl | decide | (simp [upd, mrow]; done))).symm
    refine lv_icmp_ge (tgt := 312) hx hb dX12_goWeek_277 (by decide) (fun _ => ?_) (fun c => absurd c (by decide))
    refine lv_aload_n hx hb dX12_goWeek_312 rfl (lv_at hl 1 rfl) ?_
    refine va_get (D := G) (ci := 12) (v := .ref h0_2) (C := RX12) (T := TX12) (N := 52) hx hb hts cm_X12_goWeek_2 hown hK hP 1 rfl rfl 2 (by decide) (hts _ (dmem (j := 7) rfl)) (fun _ h9 => h9) rfl dX12_goWeek_313 ?_
    refine lv_bipush (v := 8) hx hb dX12_goWeek_316 (by decide) ?_
    refine lv_dup2_11 hx hb dX12_goWeek_318 rfl rfl ?_
    refine va_iald hx hb hK hP 2 0 rfl rfl (vp_in_iff.mpr (by decide)) dX12_goWeek_319 ?_
    refine lv_topi (fun x12 ex12 => ?_)
    obtain rfl : (nI mm) = x12 := (ex12.trans (by first | rfl | decide | (simp [upd, mrow]; done))).symm
    refine lv_iconst (v := 1) hx hb dX12_goWeek_320 (by decide) ?_
    refine lv_iadd hx hb dX12_goWeek_321 ?_
    refine lv_topi (fun x13 ex13 => ?_)
    obtain rfl : (nI (mm + 1)) = x13 := (ex13.trans (nI_1 mm)).symm
    refine va_iast hx hb hK hP hD hS 2 0 rfl rfl (vp_in_iff.mpr (by decide)) dX12_goWeek_322 (fun H locs => setW (ws' := [(h0_30, .inl (cZ, 240, .inl (gq1 0))), (h0, .inr (12, [.int 0, .int 0, .ref h0_2, .ref h0_3, .ref h0_4, .ref h0_5, .int 0, .int 0, .int 0, .ref h0_9, .ref h0_10, .ref h0_11, .int 0, .int 0, .int 0, .int 0, .long 0, .int (-1), .int 0, .int 0, .ref h0_20, .int 0, .ref h0_22, .ref h0_23, .int 0, .ref h0_25, .ref h0_26, .int 0, .int 0, .ref h0_29, .ref h0_30, .ref h0_31, .ref h0_32, .int 0, .long 0, .long 0, .long 0, .long 0, .int 0, .ref h0_39, .ref h0_40, .int 0, .ref h0_42, .int 0, .ref h0_44, .ref h0_45, .int 0, .int 0, .int 0, .int 0, .int 0, .int 0])), (h0_2, .inl (cI, 35942, .inl (upd (upd mrow 8 (nI mm)) 8 (nI (mm + 1)))))]) rfl (fun hP hD hS => ?_))
    rw [upd_upd] at hP hD
    have hP : va_P G vwCl [(h0_30, .inl (cZ, 240, .inl (gq1 0))), (h0, .inr (12, [.int 0, .int 0, .ref h0_2, .ref h0_3, .ref h0_4, .ref h0_5, .int 0, .int 0, .int 0, .ref h0_9, .ref h0_10, .ref h0_11, .int 0, .int 0, .int 0, .int 0, .long 0, .int (-1), .int 0, .int 0, .ref h0_20, .int 0, .ref h0_22, .ref h0_23, .int 0, .ref h0_25, .ref h0_26, .int 0, .int 0, .ref h0_29, .ref h0_30, .ref h0_31, .ref h0_32, .int 0, .long 0, .long 0, .long 0, .long 0, .int 0, .ref h0_39, .ref h0_40, .int 0, .ref h0_42, .int 0, .ref h0_44, .ref h0_45, .int 0, .int 0, .int 0, .int 0, .int 0, .int 0])), (h0_2, .inl (cI, 35942, .inl (upd mrow 8 (nI (mm + 1)))))] H := hP
    exact retV hx hb hr hlocks rfl hP hD hS (fun _ => 0) (fun k => match k with | 0 => (gq1 0) | _ => fun _ => 0) [1, 2, 0] (by decide +kernel) rfl dX12_goWeek_323
  · refine lv_aload_n hx hb dX12_goWeek_21 rfl (lv_at hl 0 rfl) ?_
    refine va_get (D := G) (ci := 12) (v := .ref h0_2) (C := RX12) (T := TX12) (N := 52) hx hb hts cm_X12_goWeek_2 hown hK hP 1 rfl rfl 2 (by decide) (hts _ (dmem (j := 7) rfl)) (fun _ h9 => h9) rfl dX12_goWeek_22 ?_
    refine lv_bipush (v := 8) hx hb dX12_goWeek_25 (by decide) ?_
    refine va_iald hx hb hK hP 2 0 rfl rfl (vp_in_iff.mpr (by decide)) dX12_goWeek_27 ?_
    refine lv_topi (fun x14 ex14 => ?_)
    obtain rfl : (nI mm) = x14 := (ex14.trans (by first | rfl | decide | (simp [upd, mrow]; done))).symm
    refine lv_if_le (tgt := 84) hx hb dX12_goWeek_28 (by decide) (fun c15 => ?_) (fun c15 => ?_)
    · have f16 : ((nI mm).toInt : Int) ≤ 0 := Int32.le_iff_toInt_le.mp c15
      refine lv_iconst (v := 0) hx hb dX12_goWeek_84 (by decide) ?_
      refine lv_istore_n (lv' := [(1, .int 0), (0, .ref h0)]) hx hb dX12_goWeek_85 rfl hl (by decide) rfl (fun ls hl => ?_)
      refine lv_iload_n hx hb dX12_goWeek_86 rfl (lv_at hl 0 rfl) ?_
      refine lv_aload_n hx hb dX12_goWeek_87 rfl (lv_at hl 1 rfl) ?_
      refine va_get (D := G) (ci := 12) (v := .ref h0_2) (C := RX12) (T := TX12) (N := 52) hx hb hts cm_X12_goWeek_2 hown hK hP 1 rfl rfl 2 (by decide) (hts _ (dmem (j := 7) rfl)) (fun _ h9 => h9) rfl dX12_goWeek_88 ?_
      refine lv_iconst (v := 4) hx hb dX12_goWeek_91 (by decide) ?_
      refine va_iald hx hb hK hP 2 0 rfl rfl (vp_in_iff.mpr (by decide)) dX12_goWeek_92 ?_
      refine lv_topi (fun x17 ex17 => ?_)
      obtain rfl : 0 = x17 := (ex17.trans (by first | rfl | decide | (simp [upd, mrow]; done))).symm
      refine lv_icmp_ge (tgt := 132) hx hb dX12_goWeek_93 (by decide) (fun _ => ?_) (fun c => absurd c (by decide))
      refine lv_iconst (v := 0) hx hb dX12_goWeek_132 (by decide) ?_
      refine lv_istore_n (lv' := [(1, .int 0), (0, .ref h0)]) hx hb dX12_goWeek_133 rfl hl (by decide) rfl (fun ls hl => ?_)
      refine lv_iload_n hx hb dX12_goWeek_134 rfl (lv_at hl 0 rfl) ?_
      refine lv_aload_n hx hb dX12_goWeek_135 rfl (lv_at hl 1 rfl) ?_
      refine va_get (D := G) (ci := 12) (v := .ref h0_2) (C := RX12) (T := TX12) (N := 52) hx hb hts cm_X12_goWeek_2 hown hK hP 1 rfl rfl 2 (by decide) (hts _ (dmem (j := 7) rfl)) (fun _ h9 => h9) rfl dX12_goWeek_136 ?_
      refine lv_iconst (v := 0) hx hb dX12_goWeek_139 (by decide) ?_
      refine va_iald hx hb hK hP 2 0 rfl rfl (vp_in_iff.mpr (by decide)) dX12_goWeek_140 ?_
      refine lv_topi (fun x18 ex18 => ?_)
      obtain rfl : 0 = x18 := (ex18.trans (by first | rfl | decide | (simp [upd, mrow]; done))).symm
      refine lv_icmp_ge (tgt := 237) hx hb dX12_goWeek_141 (by decide) (fun _ => ?_) (fun c => absurd c (by decide))
      refine lv_iconst (v := 0) hx hb dX12_goWeek_237 (by decide) ?_
      refine lv_istore_n (lv' := [(1, .int 0), (0, .ref h0)]) hx hb dX12_goWeek_238 rfl hl (by decide) rfl (fun ls hl => ?_)
      refine lv_iload_n hx hb dX12_goWeek_239 rfl (lv_at hl 0 rfl) ?_
      refine lv_aload_n hx hb dX12_goWeek_240 rfl (lv_at hl 1 rfl) ?_
      refine va_get (D := G) (ci := 12) (v := .ref h0_2) (C := RX12) (T := TX12) (N := 52) hx hb hts cm_X12_goWeek_2 hown hK hP 1 rfl rfl 2 (by decide) (hts _ (dmem (j := 7) rfl)) (fun _ h9 => h9) rfl dX12_goWeek_241 ?_
      refine lv_iconst (v := 0) hx hb dX12_goWeek_244 (by decide) ?_
      refine va_iald hx hb hK hP 2 0 rfl rfl (vp_in_iff.mpr (by decide)) dX12_goWeek_245 ?_
      refine lv_topi (fun x19 ex19 => ?_)
      obtain rfl : 0 = x19 := (ex19.trans (by first | rfl | decide | (simp [upd, mrow]; done))).symm
      refine lv_icmp_ge (tgt := 268) hx hb dX12_goWeek_246 (by decide) (fun _ => ?_) (fun c => absurd c (by decide))
      refine lv_iconst (v := 0) hx hb dX12_goWeek_268 (by decide) ?_
      refine lv_istore_n (lv' := [(1, .int 0), (0, .ref h0)]) hx hb dX12_goWeek_269 rfl hl (by decide) rfl (fun ls hl => ?_)
      refine lv_iload_n hx hb dX12_goWeek_270 rfl (lv_at hl 0 rfl) ?_
      refine lv_aload_n hx hb dX12_goWeek_271 rfl (lv_at hl 1 rfl) ?_
      refine va_get (D := G) (ci := 12) (v := .ref h0_2) (C := RX12) (T := TX12) (N := 52) hx hb hts cm_X12_goWeek_2 hown hK hP 1 rfl rfl 2 (by decide) (hts _ (dmem (j := 7) rfl)) (fun _ h9 => h9) rfl dX12_goWeek_272 ?_
      refine lv_iconst (v := 0) hx hb dX12_goWeek_275 (by decide) ?_
      refine va_iald hx hb hK hP 2 0 rfl rfl (vp_in_iff.mpr (by decide)) dX12_goWeek_276 ?_
      refine lv_topi (fun x20 ex20 => ?_)
      obtain rfl : 0 = x20 := (ex20.trans (by first | rfl | decide | (simp [upd, mrow]; done))).symm
      refine lv_icmp_ge (tgt := 312) hx hb dX12_goWeek_277 (by decide) (fun _ => ?_) (fun c => absurd c (by decide))
      refine lv_aload_n hx hb dX12_goWeek_312 rfl (lv_at hl 1 rfl) ?_
      refine va_get (D := G) (ci := 12) (v := .ref h0_2) (C := RX12) (T := TX12) (N := 52) hx hb hts cm_X12_goWeek_2 hown hK hP 1 rfl rfl 2 (by decide) (hts _ (dmem (j := 7) rfl)) (fun _ h9 => h9) rfl dX12_goWeek_313 ?_
      refine lv_bipush (v := 8) hx hb dX12_goWeek_316 (by decide) ?_
      refine lv_dup2_11 hx hb dX12_goWeek_318 rfl rfl ?_
      refine va_iald hx hb hK hP 2 0 rfl rfl (vp_in_iff.mpr (by decide)) dX12_goWeek_319 ?_
      refine lv_topi (fun x21 ex21 => ?_)
      obtain rfl : (nI mm) = x21 := (ex21.trans (by first | rfl | decide | (simp [upd, mrow]; done))).symm
      refine lv_iconst (v := 1) hx hb dX12_goWeek_320 (by decide) ?_
      refine lv_iadd hx hb dX12_goWeek_321 ?_
      refine lv_topi (fun x22 ex22 => ?_)
      obtain rfl : (nI (mm + 1)) = x22 := (ex22.trans (nI_1 mm)).symm
      refine va_iast hx hb hK hP hD hS 2 0 rfl rfl (vp_in_iff.mpr (by decide)) dX12_goWeek_322 (fun H locs => setW (ws' := [(h0_30, .inl (cZ, 240, .inl (gq1 0))), (h0, .inr (12, [.int 0, .int 0, .ref h0_2, .ref h0_3, .ref h0_4, .ref h0_5, .int 0, .int 0, .int 0, .ref h0_9, .ref h0_10, .ref h0_11, .int 0, .int 0, .int 0, .int 0, .long 0, .int (-1), .int 0, .int 0, .ref h0_20, .int 0, .ref h0_22, .ref h0_23, .int 0, .ref h0_25, .ref h0_26, .int 0, .int 0, .ref h0_29, .ref h0_30, .ref h0_31, .ref h0_32, .int 0, .long 0, .long 0, .long 0, .long 0, .int 0, .ref h0_39, .ref h0_40, .int 0, .ref h0_42, .int 0, .ref h0_44, .ref h0_45, .int 0, .int 0, .int 0, .int 0, .int 0, .int 0])), (h0_2, .inl (cI, 35942, .inl (upd (upd mrow 8 (nI mm)) 8 (nI (mm + 1)))))]) rfl (fun hP hD hS => ?_))
      rw [upd_upd] at hP hD
      have hP : va_P G vwCl [(h0_30, .inl (cZ, 240, .inl (gq1 0))), (h0, .inr (12, [.int 0, .int 0, .ref h0_2, .ref h0_3, .ref h0_4, .ref h0_5, .int 0, .int 0, .int 0, .ref h0_9, .ref h0_10, .ref h0_11, .int 0, .int 0, .int 0, .int 0, .long 0, .int (-1), .int 0, .int 0, .ref h0_20, .int 0, .ref h0_22, .ref h0_23, .int 0, .ref h0_25, .ref h0_26, .int 0, .int 0, .ref h0_29, .ref h0_30, .ref h0_31, .ref h0_32, .int 0, .long 0, .long 0, .long 0, .long 0, .int 0, .ref h0_39, .ref h0_40, .int 0, .ref h0_42, .int 0, .ref h0_44, .ref h0_45, .int 0, .int 0, .int 0, .int 0, .int 0, .int 0])), (h0_2, .inl (cI, 35942, .inl (upd mrow 8 (nI (mm + 1)))))] H := hP
      exact retV hx hb hr hlocks rfl hP hD hS (fun _ => 0) (fun k => match k with | 0 => (gq1 0) | _ => fun _ => 0) [1, 2, 0] (by decide +kernel) rfl dX12_goWeek_323
    · have f23 : ¬ (((nI mm).toInt : Int) ≤ 0) := fun h => c15 (Int32.le_iff_toInt_le.mpr h)
      refine lv_aload_n hx hb dX12_goWeek_31 rfl (lv_at hl 0 rfl) ?_
      refine goV (As := []) (rest := []) (wr := [(h0_30, .inl (cZ, 240, .inl (gq1 0)))]) ⟨hx, hb, hml, hown, hts⟩ (c_X12_payRents_v1 l G cI cJ cZ cD cR cT h0 h0_2 h0_3 h0_4 h0_5 h0_9 h0_10 h0_11 h0_20 h0_22 h0_23 h0_25 h0_26 h0_29 h0_30 h0_31 h0_32 h0_39 h0_40 h0_42 h0_44 h0_45 mm _ (by omega)) (cwV 0 hts gv_X12_goWeek_467_X12_payRents_v1 rfl rfl rfl (by decide +kernel) ⟨Nat.le_of_ble_eq_true rfl, Nat.le_of_ble_eq_true rfl⟩) 1 rfl rfl rfl hKK hP hD hS hA [1, 2] [0] rfl rfl (by decide +kernel) (by decide +kernel) (by decide +kernel) rfl hl.1 rfl (lv_room (Nat.le_of_ble_eq_true rfl)) dX12_goWeek_32 ⟨Nat.le_of_ble_eq_true rfl, Nat.le_of_ble_eq_true rfl⟩ (fun v25 q24 gq24 H locs hv25 => appW (ws' := [(h0_30, .inl (cZ, 240, .inl (gq1 0))), (h0, .inr (12, [.int 0, .int 0, .ref h0_2, .ref h0_3, .ref h0_4, .ref h0_5, .int 0, .int 0, .int 0, .ref h0_9, .ref h0_10, .ref h0_11, .int 0, .int 0, .int 0, .int 0, .long 0, .int (-1), .int 0, .int 0, .ref h0_20, .int 0, .ref h0_22, .ref h0_23, .int 0, .ref h0_25, .ref h0_26, .int 0, .int 0, .ref h0_29, .ref h0_30, .ref h0_31, .ref h0_32, .int 0, .long 0, .long 0, .long 0, .long 0, .int 0, .ref h0_39, .ref h0_40, .int 0, .ref h0_42, .int 0, .ref h0_44, .ref h0_45, .int 0, .int 0, .int 0, .int 0, .int 0, .int 0])), (h0_2, .inl (cI, 35942, .inl (upd mrow 8 (nI mm))))]) rfl (fun hP hD hS => ?_))
      obtain rfl := hv25
      refine lv_iconst (v := 0) hx hb dX12_goWeek_35 (by decide) ?_
      refine lv_istore_n (lv' := [(1, .int 0), (0, .ref h0)]) hx hb dX12_goWeek_36 rfl hl (by decide) rfl (fun ls hl => ?_)
      refine lv_iload_n hx hb dX12_goWeek_37 rfl (lv_at hl 0 rfl) ?_
      refine lv_aload_n hx hb dX12_goWeek_38 rfl (lv_at hl 1 rfl) ?_
      refine va_get (D := G) (ci := 12) (v := .ref h0_2) (C := RX12) (T := TX12) (N := 52) hx hb hts cm_X12_goWeek_2 hown hK hP 1 rfl rfl 2 (by decide) (hts _ (dmem (j := 7) rfl)) (fun _ h9 => h9) rfl dX12_goWeek_39 ?_
      refine lv_iconst (v := 2) hx hb dX12_goWeek_42 (by decide) ?_
      refine va_iald hx hb hK hP 2 0 rfl rfl (vp_in_iff.mpr (by decide)) dX12_goWeek_43 ?_
      refine lv_topi (fun x26 ex26 => ?_)
      obtain rfl : 0 = x26 := (ex26.trans (by first | rfl | decide | (simp [upd, mrow]; done))).symm
      refine lv_icmp_ge (tgt := 84) hx hb dX12_goWeek_44 (by decide) (fun _ => ?_) (fun c => absurd c (by decide))
      refine lv_iconst (v := 0) hx hb dX12_goWeek_84 (by decide) ?_
      refine lv_istore_n (lv' := [(1, .int 0), (0, .ref h0)]) hx hb dX12_goWeek_85 rfl hl (by decide) rfl (fun ls hl => ?_)
      refine lv_iload_n hx hb dX12_goWeek_86 rfl (lv_at hl 0 rfl) ?_
      refine lv_aload_n hx hb dX12_goWeek_87 rfl (lv_at hl 1 rfl) ?_
      refine va_get (D := G) (ci := 12) (v := .ref h0_2) (C := RX12) (T := TX12) (N := 52) hx hb hts cm_X12_goWeek_2 hown hK hP 1 rfl rfl 2 (by decide) (hts _ (dmem (j := 7) rfl)) (fun _ h9 => h9) rfl dX12_goWeek_88 ?_
      refine lv_iconst (v := 4) hx hb dX12_goWeek_91 (by decide) ?_
      refine va_iald hx hb hK hP 2 0 rfl rfl (vp_in_iff.mpr (by decide)) dX12_goWeek_92 ?_
      refine lv_topi (fun x27 ex27 => ?_)
      obtain rfl : 0 = x27 := (ex27.trans (by first | rfl | decide | (simp [upd, mrow]; done))).symm
      refine lv_icmp_ge (tgt := 132) hx hb dX12_goWeek_93 (by decide) (fun _ => ?_) (fun c => absurd c (by decide))
      refine lv_iconst (v := 0) hx hb dX12_goWeek_132 (by decide) ?_
      refine lv_istore_n (lv' := [(1, .int 0), (0, .ref h0)]) hx hb dX12_goWeek_133 rfl hl (by decide) rfl (fun ls hl => ?_)
      refine lv_iload_n hx hb dX12_goWeek_134 rfl (lv_at hl 0 rfl) ?_
      refine lv_aload_n hx hb dX12_goWeek_135 rfl (lv_at hl 1 rfl) ?_
      refine va_get (D := G) (ci := 12) (v := .ref h0_2) (C := RX12) (T := TX12) (N := 52) hx hb hts cm_X12_goWeek_2 hown hK hP 1 rfl rfl 2 (by decide) (hts _ (dmem (j := 7) rfl)) (fun _ h9 => h9) rfl dX12_goWeek_136 ?_
      refine lv_iconst (v := 0) hx hb dX12_goWeek_139 (by decide) ?_
      refine va_iald hx hb hK hP 2 0 rfl rfl (vp_in_iff.mpr (by decide)) dX12_goWeek_140 ?_
      refine lv_topi (fun x28 ex28 => ?_)
      obtain rfl : 0 = x28 := (ex28.trans (by first | rfl | decide | (simp [upd, mrow]; done))).symm
      refine lv_icmp_ge (tgt := 237) hx hb dX12_goWeek_141 (by decide) (fun _ => ?_) (fun c => absurd c (by decide))
      refine lv_iconst (v := 0) hx hb dX12_goWeek_237 (by decide) ?_
      refine lv_istore_n (lv' := [(1, .int 0), (0, .ref h0)]) hx hb dX12_goWeek_238 rfl hl (by decide) rfl (fun ls hl => ?_)
      refine lv_iload_n hx hb dX12_goWeek_239 rfl (lv_at hl 0 rfl) ?_
      refine lv_aload_n hx hb dX12_goWeek_240 rfl (lv_at hl 1 rfl) ?_
      refine va_get (D := G) (ci := 12) (v := .ref h0_2) (C := RX12) (T := TX12) (N := 52) hx hb hts cm_X12_goWeek_2 hown hK hP 1 rfl rfl 2 (by decide) (hts _ (dmem (j := 7) rfl)) (fun _ h9 => h9) rfl dX12_goWeek_241 ?_
      refine lv_iconst (v := 0) hx hb dX12_goWeek_244 (by decide) ?_
      refine va_iald hx hb hK hP 2 0 rfl rfl (vp_in_iff.mpr (by decide)) dX12_goWeek_245 ?_
      refine lv_topi (fun x29 ex29 => ?_)
      obtain rfl : 0 = x29 := (ex29.trans (by first | rfl | decide | (simp [upd, mrow]; done))).symm
      refine lv_icmp_ge (tgt := 268) hx hb dX12_goWeek_246 (by decide) (fun _ => ?_) (fun c => absurd c (by decide))
      refine lv_iconst (v := 0) hx hb dX12_goWeek_268 (by decide) ?_
      refine lv_istore_n (lv' := [(1, .int 0), (0, .ref h0)]) hx hb dX12_goWeek_269 rfl hl (by decide) rfl (fun ls hl => ?_)
      refine lv_iload_n hx hb dX12_goWeek_270 rfl (lv_at hl 0 rfl) ?_
      refine lv_aload_n hx hb dX12_goWeek_271 rfl (lv_at hl 1 rfl) ?_
      refine va_get (D := G) (ci := 12) (v := .ref h0_2) (C := RX12) (T := TX12) (N := 52) hx hb hts cm_X12_goWeek_2 hown hK hP 1 rfl rfl 2 (by decide) (hts _ (dmem (j := 7) rfl)) (fun _ h9 => h9) rfl dX12_goWeek_272 ?_
      refine lv_iconst (v := 0) hx hb dX12_goWeek_275 (by decide) ?_
      refine va_iald hx hb hK hP 2 0 rfl rfl (vp_in_iff.mpr (by decide)) dX12_goWeek_276 ?_
      refine lv_topi (fun x30 ex30 => ?_)
      obtain rfl : 0 = x30 := (ex30.trans (by first | rfl | decide | (simp [upd, mrow]; done))).symm
      refine lv_icmp_ge (tgt := 312) hx hb dX12_goWeek_277 (by decide) (fun _ => ?_) (fun c => absurd c (by decide))
      refine lv_aload_n hx hb dX12_goWeek_312 rfl (lv_at hl 1 rfl) ?_
      refine va_get (D := G) (ci := 12) (v := .ref h0_2) (C := RX12) (T := TX12) (N := 52) hx hb hts cm_X12_goWeek_2 hown hK hP 1 rfl rfl 2 (by decide) (hts _ (dmem (j := 7) rfl)) (fun _ h9 => h9) rfl dX12_goWeek_313 ?_
      refine lv_bipush (v := 8) hx hb dX12_goWeek_316 (by decide) ?_
      refine lv_dup2_11 hx hb dX12_goWeek_318 rfl rfl ?_
      refine va_iald hx hb hK hP 2 0 rfl rfl (vp_in_iff.mpr (by decide)) dX12_goWeek_319 ?_
      refine lv_topi (fun x31 ex31 => ?_)
      obtain rfl : (nI mm) = x31 := (ex31.trans (by first | rfl | decide | (simp [upd, mrow]; done))).symm
      refine lv_iconst (v := 1) hx hb dX12_goWeek_320 (by decide) ?_
      refine lv_iadd hx hb dX12_goWeek_321 ?_
      refine lv_topi (fun x32 ex32 => ?_)
      obtain rfl : (nI (mm + 1)) = x32 := (ex32.trans (nI_1 mm)).symm
      refine va_iast hx hb hK hP hD hS 2 0 rfl rfl (vp_in_iff.mpr (by decide)) dX12_goWeek_322 (fun H locs => setW (ws' := [(h0_30, .inl (cZ, 240, .inl (gq1 0))), (h0, .inr (12, [.int 0, .int 0, .ref h0_2, .ref h0_3, .ref h0_4, .ref h0_5, .int 0, .int 0, .int 0, .ref h0_9, .ref h0_10, .ref h0_11, .int 0, .int 0, .int 0, .int 0, .long 0, .int (-1), .int 0, .int 0, .ref h0_20, .int 0, .ref h0_22, .ref h0_23, .int 0, .ref h0_25, .ref h0_26, .int 0, .int 0, .ref h0_29, .ref h0_30, .ref h0_31, .ref h0_32, .int 0, .long 0, .long 0, .long 0, .long 0, .int 0, .ref h0_39, .ref h0_40, .int 0, .ref h0_42, .int 0, .ref h0_44, .ref h0_45, .int 0, .int 0, .int 0, .int 0, .int 0, .int 0])), (h0_2, .inl (cI, 35942, .inl (upd (upd mrow 8 (nI mm)) 8 (nI (mm + 1)))))]) rfl (fun hP hD hS => ?_))
      rw [upd_upd] at hP hD
      have hP : va_P G vwCl [(h0_30, .inl (cZ, 240, .inl (gq1 0))), (h0, .inr (12, [.int 0, .int 0, .ref h0_2, .ref h0_3, .ref h0_4, .ref h0_5, .int 0, .int 0, .int 0, .ref h0_9, .ref h0_10, .ref h0_11, .int 0, .int 0, .int 0, .int 0, .long 0, .int (-1), .int 0, .int 0, .ref h0_20, .int 0, .ref h0_22, .ref h0_23, .int 0, .ref h0_25, .ref h0_26, .int 0, .int 0, .ref h0_29, .ref h0_30, .ref h0_31, .ref h0_32, .int 0, .long 0, .long 0, .long 0, .long 0, .int 0, .ref h0_39, .ref h0_40, .int 0, .ref h0_42, .int 0, .ref h0_44, .ref h0_45, .int 0, .int 0, .int 0, .int 0, .int 0, .int 0])), (h0_2, .inl (cI, 35942, .inl (upd mrow 8 (nI (mm + 1)))))] H := hP
      exact retV hx hb hr hlocks rfl hP hD hS (fun _ => 0) (fun k => match k with | 0 => (gq1 0) | _ => fun _ => 0) [1, 2, 0] (by decide +kernel) rfl dX12_goWeek_323
def d_X12_go : List Cond := [Cond.fieldLink RX12 82 "NoRentModel" "thrown" "I", Cond.constantLong RX12 479 (104), Cond.methodLink RX12 90 yX12_in, Cond.static yX12_in, Cond.initialized RX12, Cond.fieldLink RX12 8 "NoRentModel" "row" "[I", Cond.methodLink RX12 94 yX12_told, Cond.instanceMethod yX12_told, Cond.selects RX12 yX12_told yX12_told, Cond.methodLink RX12 481 yX12_goWeek, Cond.instanceMethod yX12_goWeek, Cond.selects RX12 yX12_goWeek yX12_goWeek]
def v_X12_go : List Cond := Cond.code yX12_go cX12_go 3 (some .int) :: (d_X12_go ++ (wsX120 ++ (v_X12_in ++ (v_X12_told_v4 ++ (v_X12_goWeek ++ (v_X12_told_v2 ++ ([] : List Cond)))))))
theorem cm_X12_go_0 : ∀ w ∈ wsX120, w ∈ v_X12_go := fun _ h => List.mem_cons_of_mem _ (List.mem_append_right _ (List.mem_append_left _ h))
theorem cm_X12_go_1 : ∀ w ∈ v_X12_in, w ∈ v_X12_go := fun _ h => List.mem_cons_of_mem _ (List.mem_append_right _ (List.mem_append_right _ (List.mem_append_left _ h)))
theorem cm_X12_go_2 : ∀ w ∈ v_X12_told_v4, w ∈ v_X12_go := fun _ h => List.mem_cons_of_mem _ (List.mem_append_right _ (List.mem_append_right _ (List.mem_append_right _ (List.mem_append_left _ h))))
theorem cm_X12_go_3 : ∀ w ∈ v_X12_goWeek, w ∈ v_X12_go := fun _ h => List.mem_cons_of_mem _ (List.mem_append_right _ (List.mem_append_right _ (List.mem_append_right _ (List.mem_append_right _ (List.mem_append_left _ h)))))
theorem cm_X12_go_4 : ∀ w ∈ v_X12_told_v2, w ∈ v_X12_go := fun _ h => List.mem_cons_of_mem _ (List.mem_append_right _ (List.mem_append_right _ (List.mem_append_right _ (List.mem_append_right _ (List.mem_append_right _ (List.mem_append_left _ h))))))
theorem gd_X12_go : Gd v_X12_go := gd_mk (by decide +kernel) (gd_app gd_X12 (gd_app gd_X12_in (gd_app gd_X12_told_v4 (gd_app gd_X12_goWeek (gd_app gd_X12_told_v2 gd_nil)))))
set_option maxRecDepth 20000 in
theorem gv_X12_go_90_X12_in : GoodIn v_X12_go (va_wsS RX12 90 yX12_in v_X12_in) := goodIn_app (goodIn_of _ (by decide +kernel)) (gi cm_X12_go_1 gd_X12_in)
set_option maxRecDepth 20000 in
theorem gv_X12_go_94_X12_told_v4 : GoodIn v_X12_go (wsV RX12 94 RX12 yX12_told v_X12_told_v4) := goodIn_app (goodIn_of _ (by decide +kernel)) (gi cm_X12_go_2 gd_X12_told_v4)
set_option maxRecDepth 20000 in
theorem gv_X12_go_481_X12_goWeek : GoodIn v_X12_go (wsV RX12 481 RX12 yX12_goWeek v_X12_goWeek) := goodIn_app (goodIn_of _ (by decide +kernel)) (gi cm_X12_go_3 gd_X12_goWeek)
set_option maxRecDepth 20000 in
theorem gv_X12_go_94_X12_told_v2 : GoodIn v_X12_go (wsV RX12 94 RX12 yX12_told v_X12_told_v2) := goodIn_app (goodIn_of _ (by decide +kernel)) (gi cm_X12_go_4 gd_X12_told_v2)
set_option maxHeartbeats 4000000 in
set_option maxRecDepth 100000 in
theorem c_X12_go (l : Launch) (G : va_G) (cI cJ cZ cD cR cT : ClassId) (h0 : Nat) (u1 : Int32) (h0_2 : Nat) (h0_3 : Nat) (h0_4 : Nat) (h0_5 : Nat) (h0_9 : Nat) (h0_10 : Nat) (h0_11 : Nat) (h0_20 : Nat) (h0_22 : Nat) (h0_23 : Nat) (h0_25 : Nat) (h0_26 : Nat) (h0_29 : Nat) (h0_30 : Nat) (h0_31 : Nat) (h0_32 : Nat) (h0_39 : Nat) (h0_40 : Nat) (h0_42 : Nat) (h0_44 : Nat) (h0_45 : Nat) (sz : Nat) : Met l yX12_go v_X12_go ({ frames := 4, cells := 0, slots := 0, locals := 112 }) (va_Pc [.ref h0, .int u1] (PreW G (tys6 cI cJ cZ cD cR cT) [(h0, .inr (12, [.int 0, .int 0, .ref h0_2, .ref h0_3, .ref h0_4, .ref h0_5, .int 0, .int 0, .int 0, .ref h0_9, .ref h0_10, .ref h0_11, .int 0, .int 0, .int 0, .int 0, .long 0, .int (-1), .int 0, .int 0, .ref h0_20, .int 0, .ref h0_22, .ref h0_23, .int 0, .ref h0_25, .ref h0_26, .int 0, .int 0, .ref h0_29, .ref h0_30, .ref h0_31, .ref h0_32, .int 0, .long 0, .long 0, .long 0, .long 0, .int 0, .ref h0_39, .ref h0_40, .int 0, .ref h0_42, .int 0, .ref h0_44, .ref h0_45, .int 0, .int 0, .int 0, .int 0, .int 0, .int 0])), (h0_2, .inl (cI, 35942, .inl mrow)), (h0_30, .inl (cZ, 240, .inl (fun _ => 0)))] sz)) (QW (RI (fun r => r = F_go u1)) G (va_A [(h0, .inr (12, [.int 0, .int 0, .ref h0_2, .ref h0_3, .ref h0_4, .ref h0_5, .int 0, .int 0, .int 0, .ref h0_9, .ref h0_10, .ref h0_11, .int 0, .int 0, .int 0, .int 0, .long 0, .int (-1), .int 0, .int 0, .ref h0_20, .int 0, .ref h0_22, .ref h0_23, .int 0, .ref h0_25, .ref h0_26, .int 0, .int 0, .ref h0_29, .ref h0_30, .ref h0_31, .ref h0_32, .int 0, .long 0, .long 0, .long 0, .long 0, .int 0, .ref h0_39, .ref h0_40, .int 0, .ref h0_42, .int 0, .ref h0_44, .ref h0_45, .int 0, .int 0, .int 0, .int 0, .int 0, .int 0])), (h0_2, .inl (cI, 35942, .inl mrow)), (h0_30, .inl (cZ, 240, .inl (fun _ => 0)))] sz) (fun q g => [])) 0 0 (va_A [(h0, .inr (12, [.int 0, .int 0, .ref h0_2, .ref h0_3, .ref h0_4, .ref h0_5, .int 0, .int 0, .int 0, .ref h0_9, .ref h0_10, .ref h0_11, .int 0, .int 0, .int 0, .int 0, .long 0, .int (-1), .int 0, .int 0, .ref h0_20, .int 0, .ref h0_22, .ref h0_23, .int 0, .ref h0_25, .ref h0_26, .int 0, .int 0, .ref h0_29, .ref h0_30, .ref h0_31, .ref h0_32, .int 0, .long 0, .long 0, .long 0, .long 0, .int 0, .ref h0_39, .ref h0_40, .int 0, .ref h0_42, .int 0, .ref h0_44, .ref h0_45, .int 0, .int 0, .int 0, .int 0, .int 0, .int 0])), (h0_2, .inl (cI, 35942, .inl mrow)), (h0_30, .inl (cZ, 240, .inl (fun _ => 0)))] sz) := by
  refine metW (cc := cX12_go) (maxL := 3) (ret := (some .int)) (by decide) rfl (Nat.le_of_ble_eq_true rfl) ?_
  intro p e s m below meth c A ls hx hb hr hml hown hts hlocks hin hKK hP hD hA hS hl
  have hK := hKK.1
  have hown : s.vm.findClass RX12 = some m.cls := hown
  have hl : lv_has ls 3 [(0, .ref h0), (1, .int u1)] := hl
  have hP : va_P G vwCl [(h0, .inr (12, [.int 0, .int 0, .ref h0_2, .ref h0_3, .ref h0_4, .ref h0_5, .int 0, .int 0, .int 0, .ref h0_9, .ref h0_10, .ref h0_11, .int 0, .int 0, .int 0, .int 0, .long 0, .int (-1), .int 0, .int 0, .ref h0_20, .int 0, .ref h0_22, .ref h0_23, .int 0, .ref h0_25, .ref h0_26, .int 0, .int 0, .ref h0_29, .ref h0_30, .ref h0_31, .ref h0_32, .int 0, .long 0, .long 0, .long 0, .long 0, .int 0, .ref h0_39, .ref h0_40, .int 0, .ref h0_42, .int 0, .ref h0_44, .ref h0_45, .int 0, .int 0, .int 0, .int 0, .int 0, .int 0])), (h0_2, .inl (cI, 35942, .inl mrow)), (h0_30, .inl (cZ, 240, .inl (fun _ => 0)))] s.heap := hP
  have hD : va_D A [(h0, .inr (12, [.int 0, .int 0, .ref h0_2, .ref h0_3, .ref h0_4, .ref h0_5, .int 0, .int 0, .int 0, .ref h0_9, .ref h0_10, .ref h0_11, .int 0, .int 0, .int 0, .int 0, .long 0, .int (-1), .int 0, .int 0, .ref h0_20, .int 0, .ref h0_22, .ref h0_23, .int 0, .ref h0_25, .ref h0_26, .int 0, .int 0, .ref h0_29, .ref h0_30, .ref h0_31, .ref h0_32, .int 0, .long 0, .long 0, .long 0, .long 0, .int 0, .ref h0_39, .ref h0_40, .int 0, .ref h0_42, .int 0, .ref h0_44, .ref h0_45, .int 0, .int 0, .int 0, .int 0, .int 0, .int 0])), (h0_2, .inl (cI, 35942, .inl mrow)), (h0_30, .inl (cZ, 240, .inl (fun _ => 0)))] := hD
  refine lv_aload_n hx hb dX12_go_0 rfl (lv_at hl 0 rfl) ?_
  refine lv_iconst (v := 0) hx hb dX12_go_1 (by decide) ?_
  refine va_put (D := G) (ci := 12) (v := .int 0) (ty := .int) (C := RX12) (T := TX12) (N := 52) hx hb hts cm_X12_go_0 tyX12 tyX12_ok nmX12 hown hK hP hD hS 0 rfl rfl 0 (by decide) (hts _ (dmem (j := 0) rfl)) (fun _ h9 => h9) rfl (by decide +kernel) rfl rfl (Nat.le_of_ble_eq_true rfl) dX12_go_2 (fun H locs => setW (ws' := [(h0, .inr (12, [.int 0, .int 0, .ref h0_2, .ref h0_3, .ref h0_4, .ref h0_5, .int 0, .int 0, .int 0, .ref h0_9, .ref h0_10, .ref h0_11, .int 0, .int 0, .int 0, .int 0, .long 0, .int (-1), .int 0, .int 0, .ref h0_20, .int 0, .ref h0_22, .ref h0_23, .int 0, .ref h0_25, .ref h0_26, .int 0, .int 0, .ref h0_29, .ref h0_30, .ref h0_31, .ref h0_32, .int 0, .long 0, .long 0, .long 0, .long 0, .int 0, .ref h0_39, .ref h0_40, .int 0, .ref h0_42, .int 0, .ref h0_44, .ref h0_45, .int 0, .int 0, .int 0, .int 0, .int 0, .int 0])), (h0_2, .inl (cI, 35942, .inl mrow)), (h0_30, .inl (cZ, 240, .inl (fun _ => 0)))]) rfl (fun hP hD hS => ?_))
  refine lv_iload_n hx hb dX12_go_5 rfl (lv_at hl 1 rfl) ?_
  refine lv_i2l hx hb dX12_go_6 rfl ?_
  refine lv_lconst (v := 1) hx hb dX12_go_7 (by decide) ?_
  refine lv_ldc2 (v := 104) hx hb hown (hts _ (dmem (j := 1) rfl)) dX12_go_8 ?_
  refine goS (As := [.long (u1).toInt64, .long 1, .long 104]) (rest := []) (wr := [(h0, .inr (12, [.int 0, .int 0, .ref h0_2, .ref h0_3, .ref h0_4, .ref h0_5, .int 0, .int 0, .int 0, .ref h0_9, .ref h0_10, .ref h0_11, .int 0, .int 0, .int 0, .int 0, .long 0, .int (-1), .int 0, .int 0, .ref h0_20, .int 0, .ref h0_22, .ref h0_23, .int 0, .ref h0_25, .ref h0_26, .int 0, .int 0, .ref h0_29, .ref h0_30, .ref h0_31, .ref h0_32, .int 0, .long 0, .long 0, .long 0, .long 0, .int 0, .ref h0_39, .ref h0_40, .int 0, .ref h0_42, .int 0, .ref h0_44, .ref h0_45, .int 0, .int 0, .int 0, .int 0, .int 0, .int 0])), (h0_2, .inl (cI, 35942, .inl mrow)), (h0_30, .inl (cZ, 240, .inl (fun _ => 0)))]) ⟨hx, hb, hml, hown, hts⟩ (c_X12_in l G cI cJ cZ cD cR cT (u1).toInt64 1 104 u1.toInt 1 104 _ (Int32.toInt_toInt64 u1) (by decide) (by decide)) (va_cwS 3 hts gv_X12_go_90_X12_in rfl rfl rfl (by decide +kernel) ⟨Nat.le_of_ble_eq_true rfl, Nat.le_of_ble_eq_true rfl⟩) hKK hP hD hS hA [] [0, 1, 2] rfl rfl (by decide +kernel) (by decide +kernel) (by decide +kernel) rfl hl.1 rfl (lv_room (Nat.le_of_ble_eq_true rfl)) dX12_go_11 ⟨Nat.le_of_ble_eq_true rfl, Nat.le_of_ble_eq_true rfl⟩ (fun v2 q1 gq1 H locs hv2 => appW (ws' := [(h0, .inr (12, [.int 0, .int 0, .ref h0_2, .ref h0_3, .ref h0_4, .ref h0_5, .int 0, .int 0, .int 0, .ref h0_9, .ref h0_10, .ref h0_11, .int 0, .int 0, .int 0, .int 0, .long 0, .int (-1), .int 0, .int 0, .ref h0_20, .int 0, .ref h0_22, .ref h0_23, .int 0, .ref h0_25, .ref h0_26, .int 0, .int 0, .ref h0_29, .ref h0_30, .ref h0_31, .ref h0_32, .int 0, .long 0, .long 0, .long 0, .long 0, .int 0, .ref h0_39, .ref h0_40, .int 0, .ref h0_42, .int 0, .ref h0_44, .ref h0_45, .int 0, .int 0, .int 0, .int 0, .int 0, .int 0])), (h0_2, .inl (cI, 35942, .inl mrow)), (h0_30, .inl (cZ, 240, .inl (fun _ => 0)))]) rfl (fun hP hD hS => ?_))
  obtain ⟨_, rfl, h4⟩ := hv2
  rcases h4 with ⟨rfl, h4⟩ | ⟨rfl, h4⟩
  · refine lv_if_eq (tgt := 32) hx hb dX12_go_14 (by decide) (fun c => absurd c (by decide)) (fun _ => ?_)
    refine lv_aload_n hx hb dX12_go_17 rfl (lv_at hl 0 rfl) ?_
    refine va_get (D := G) (ci := 12) (v := .ref h0_2) (C := RX12) (T := TX12) (N := 52) hx hb hts cm_X12_go_0 hown hK hP 0 rfl rfl 2 (by decide) (hts _ (dmem (j := 5) rfl)) (fun _ h9 => h9) rfl dX12_go_18 ?_
    refine lv_bipush (v := 8) hx hb dX12_go_21 (by decide) ?_
    refine va_iald hx hb hK hP 1 0 rfl rfl (vp_in_iff.mpr (by decide)) dX12_go_23 ?_
    refine lv_topi (fun x5 ex5 => ?_)
    obtain rfl : 0 = x5 := (ex5.trans (by first | rfl | decide | (simp [upd, mrow]; done))).symm
    refine lv_iload_n hx hb dX12_go_24 rfl (lv_at hl 1 rfl) ?_
    refine lv_iadd hx hb dX12_go_25 ?_
    refine lv_topi (fun x6 ex6 => ?_)
    obtain rfl : u1 = x6 := (ex6.trans (by simp)).symm
    refine lv_sipush (v := 399) hx hb dX12_go_26 (by decide) ?_
    refine lv_icmp_le (tgt := 38) hx hb dX12_go_29 (by decide) (fun c7 => ?_) (fun c7 => ?_)
    · have f8 : (u1.toInt : Int) ≤ 399 := Int32.le_iff_toInt_le.mp c7
      refine lv_iconst (v := 0) hx hb dX12_go_38 (by decide) ?_
      refine lv_istore_n (lv' := [(2, .int 0), (0, .ref h0), (1, .int u1)]) hx hb dX12_go_39 rfl hl (by decide) rfl (fun ls hl => ?_)
      obtain ⟨w, hw, ew⟩ : ∃ w : Nat, w ≤ 104 ∧ u1 = nI w := ⟨u1.toInt.toNat, by omega, Int32.toInt_inj.mp (by rw [nI_toInt (by omega)]; omega)⟩
      have hl : lv_has ls 3 [(2, .int 0), (0, .ref h0), (1, .int (nI w))] := by rw [ew] at hl; exact hl
      have loop40 : ∀ (n10 k9 : Nat), k9 + n10 = w → ∀ (z11 : Nat → Int32) (H : Heap) (locs : List Loc) (ls : Array Slot), va_P G vwCl [(h0, .inr (12, [.int 0, .int 0, .ref h0_2, .ref h0_3, .ref h0_4, .ref h0_5, .int 0, .int 0, .int 0, .ref h0_9, .ref h0_10, .ref h0_11, .int 0, .int 0, .int 0, .int 0, .long 0, .int (-1), .int 0, .int 0, .ref h0_20, .int 0, .ref h0_22, .ref h0_23, .int 0, .ref h0_25, .ref h0_26, .int 0, .int 0, .ref h0_29, .ref h0_30, .ref h0_31, .ref h0_32, .int 0, .long 0, .long 0, .long 0, .long 0, .int 0, .ref h0_39, .ref h0_40, .int 0, .ref h0_42, .int 0, .ref h0_44, .ref h0_45, .int 0, .int 0, .int 0, .int 0, .int 0, .int 0])), (h0_2, .inl (cI, 35942, .inl (upd mrow 8 (nI k9)))), (h0_30, .inl (cZ, 240, .inl z11))] H → va_D A [(h0, .inr (12, [.int 0, .int 0, .ref h0_2, .ref h0_3, .ref h0_4, .ref h0_5, .int 0, .int 0, .int 0, .ref h0_9, .ref h0_10, .ref h0_11, .int 0, .int 0, .int 0, .int 0, .long 0, .int (-1), .int 0, .int 0, .ref h0_20, .int 0, .ref h0_22, .ref h0_23, .int 0, .ref h0_25, .ref h0_26, .int 0, .int 0, .ref h0_29, .ref h0_30, .ref h0_31, .ref h0_32, .int 0, .long 0, .long 0, .long 0, .long 0, .int 0, .ref h0_39, .ref h0_40, .int 0, .ref h0_42, .int 0, .ref h0_44, .ref h0_45, .int 0, .int 0, .int 0, .int 0, .int 0, .int 0])), (h0_2, .inl (cI, 35942, .inl (upd mrow 8 (nI k9)))), (h0_30, .inl (cZ, 240, .inl z11))] → va_S A s.heap H locs → lv_has ls 3 [(2, .int (nI k9)), (0, .ref h0), (1, .int (nI w))] → W p l e ({ frames := 4, cells := 0, slots := 0, locals := 112 }) s m ([.ref h0, .int u1] : List Value).toArray below meth c H locs 0 0 (MQ below (QW (RI (fun r => r = F_go u1)) G A (fun q g => [])) ([.ref h0, .int u1] : List Value).toArray s 0 0 A) (F0 m 40 ls []) := by
        intro n10
        induction n10 with
        | zero =>
          intro k9 hk z11 H locs ls hP hD hS hl
          have hkI : (nI k9).toInt = (k9 : Int) := nI_toInt (by omega)
          refine lv_iload_n hx hb dX12_go_40 rfl (lv_at hl 0 rfl) ?_
          refine lv_iload_n hx hb dX12_go_41 rfl (lv_at hl 2 rfl) ?_
          refine lv_icmp_ge (tgt := 55) hx hb dX12_go_42 (by decide) (fun _ => ?_) (fun c => absurd (nI_le (by omega) (by omega)) c)
          refine lv_aload_n hx hb dX12_go_55 rfl (lv_at hl 1 rfl) ?_
          refine lv_aload_n hx hb dX12_go_56 rfl (lv_at hl 1 rfl) ?_
          refine va_get (D := G) (ci := 12) (v := .ref h0_2) (C := RX12) (T := TX12) (N := 52) hx hb hts cm_X12_go_0 hown hK hP 0 rfl rfl 2 (by decide) (hts _ (dmem (j := 5) rfl)) (fun _ h9 => h9) rfl dX12_go_57 ?_
          refine lv_bipush (v := 8) hx hb dX12_go_60 (by decide) ?_
          refine va_iald hx hb hK hP 1 0 rfl rfl (vp_in_iff.mpr (by decide)) dX12_go_62 ?_
          refine lv_topi (fun x12 ex12 => ?_)
          obtain rfl : (nI k9) = x12 := (ex12.trans (by first | rfl | decide | (simp [upd, mrow]; done))).symm
          refine goV (As := [.int (nI k9)]) (rest := []) (wr := [(h0_2, .inl (cI, 35942, .inl (upd mrow 8 (nI k9)))), (h0_30, .inl (cZ, 240, .inl z11))]) ⟨hx, hb, hml, hown, hts⟩ (c_X12_told_v4 l G cI cJ cZ cD cR cT h0 (nI k9) h0_2 h0_3 h0_4 h0_5 h0_9 h0_10 h0_11 h0_20 h0_22 h0_23 h0_25 h0_26 h0_29 h0_30 h0_31 h0_32 h0_39 h0_40 h0_42 h0_44 h0_45 _ (by first | omega | decide)) (cwV 1 hts gv_X12_go_94_X12_told_v4 rfl rfl rfl (by decide +kernel) ⟨Nat.le_of_ble_eq_true rfl, Nat.le_of_ble_eq_true rfl⟩) 0 rfl rfl rfl hKK hP hD hS hA [0] [1, 2] rfl rfl (by decide +kernel) (by decide +kernel) (by decide +kernel) rfl hl.1 rfl (lv_room (Nat.le_of_ble_eq_true rfl)) dX12_go_63 ⟨Nat.le_of_ble_eq_true rfl, Nat.le_of_ble_eq_true rfl⟩ (fun v14 q13 gq13 H locs hv14 => appW (ws' := [(h0_2, .inl (cI, 35942, .inl (upd mrow 8 (nI k9)))), (h0_30, .inl (cZ, 240, .inl z11)), (h0, .inr (12, [.int 0, .int 0, .ref h0_2, .ref h0_3, .ref h0_4, .ref h0_5, .int 0, .int 0, .int 0, .ref h0_9, .ref h0_10, .ref h0_11, .int 0, .int 0, .int 0, .int 0, .long 0, .int (-1), .int 0, .int 0, .ref h0_20, .int 0, .ref h0_22, .ref h0_23, .int 0, .ref h0_25, .ref h0_26, .int 0, .int 0, .ref h0_29, .ref h0_30, .ref h0_31, .ref h0_32, .int 0, .long 0, .long 0, .long 0, .long 0, .int 0, .ref h0_39, .ref h0_40, .int 0, .ref h0_42, .int 0, .ref h0_44, .ref h0_45, .int 0, .int 0, .int 0, .int 0, .int 0, .int 0]))]) rfl (fun hP hD hS => ?_))
          obtain ⟨_, rfl, rfl⟩ := hv14
          exact retI hx hb hr hlocks ⟨_, rfl, by unfold F_go; (repeat' split) <;> first | (exfalso; omega) | (rw [ew]; exact congrArg nI (by omega))⟩ hP hD hS (fun _ => 0) (fun _ _ => 0) [] (by decide +kernel) rfl dX12_go_66
        | succ n10 ih =>
          intro k9 hk z11 H locs ls hP hD hS hl
          have hkI : (nI k9).toInt = (k9 : Int) := nI_toInt (by omega)
          refine lv_iload_n hx hb dX12_go_40 rfl (lv_at hl 0 rfl) ?_
          refine lv_iload_n hx hb dX12_go_41 rfl (lv_at hl 2 rfl) ?_
          refine lv_icmp_ge (tgt := 55) hx hb dX12_go_42 (by decide) (fun c => absurd c (nI_ge (by omega) (by omega))) (fun _ => ?_)
          refine lv_aload_n hx hb dX12_go_45 rfl (lv_at hl 1 rfl) ?_
          refine goV (As := []) (rest := []) (wr := []) ⟨hx, hb, hml, hown, hts⟩ (c_X12_goWeek l G cI cJ cZ cD cR cT h0 h0_2 h0_3 h0_4 h0_5 h0_9 h0_10 h0_11 h0_20 h0_22 h0_23 h0_25 h0_26 h0_29 h0_30 h0_31 h0_32 h0_39 h0_40 h0_42 h0_44 h0_45 k9 z11 _ (by omega)) (cwV 0 hts gv_X12_go_481_X12_goWeek rfl rfl rfl (by decide +kernel) ⟨Nat.le_of_ble_eq_true rfl, Nat.le_of_ble_eq_true rfl⟩) 0 rfl rfl rfl hKK hP hD hS hA [0, 1, 2] [] rfl rfl (by decide +kernel) (by decide +kernel) (by decide +kernel) rfl hl.1 rfl (lv_room (Nat.le_of_ble_eq_true rfl)) dX12_go_46 ⟨Nat.le_of_ble_eq_true rfl, Nat.le_of_ble_eq_true rfl⟩ (fun v17 q16 gq16 H locs hv17 => appW (ws' := [(h0, .inr (12, [.int 0, .int 0, .ref h0_2, .ref h0_3, .ref h0_4, .ref h0_5, .int 0, .int 0, .int 0, .ref h0_9, .ref h0_10, .ref h0_11, .int 0, .int 0, .int 0, .int 0, .long 0, .int (-1), .int 0, .int 0, .ref h0_20, .int 0, .ref h0_22, .ref h0_23, .int 0, .ref h0_25, .ref h0_26, .int 0, .int 0, .ref h0_29, .ref h0_30, .ref h0_31, .ref h0_32, .int 0, .long 0, .long 0, .long 0, .long 0, .int 0, .ref h0_39, .ref h0_40, .int 0, .ref h0_42, .int 0, .ref h0_44, .ref h0_45, .int 0, .int 0, .int 0, .int 0, .int 0, .int 0])), (h0_2, .inl (cI, 35942, .inl (upd mrow 8 (nI (k9 + 1))))), (h0_30, .inl (cZ, 240, .inl (gq16 0)))]) rfl (fun hP hD hS => ?_))
          obtain rfl := hv17
          refine lv_iinc (v := (nI (k9 + 1))) (lv' := [(2, .int (nI (k9 + 1))), (0, .ref h0), (1, .int (nI w))]) hx hb dX12_go_49 hl (k := 0) rfl (nI_1 k9) (by decide) rfl (fun ls hl => ?_)
          refine lv_goto (tgt := 40) hx hb dX12_go_52 (by decide) ?_
          exact ih (k9 + 1) (by omega) _ _ _ _ (P_subm hP [0, 1, 2] rfl) (hD.sub [0, 1, 2] (by decide +kernel) rfl) hS (lv_sub hl [0, 1, 2] rfl)
      exact loop40 _ 0 (Nat.zero_add _) (fun _ => 0) _ _ _ (by rw [mrow8]; exact hP) (by rw [mrow8]; exact hD) hS hl
    · have f18 : ¬ ((u1.toInt : Int) ≤ 399) := fun h => c7 (Int32.le_iff_toInt_le.mpr h)
      exfalso; omega
  · refine lv_if_eq (tgt := 32) hx hb dX12_go_14 (by decide) (fun _ => ?_) (fun c => absurd c (by decide))
    refine lv_aload_n hx hb dX12_go_32 rfl (lv_at hl 0 rfl) ?_
    refine lv_iconst (v := (-1)) hx hb dX12_go_33 (by decide) ?_
    refine goV (As := [.int (-1)]) (rest := []) (wr := [(h0_2, .inl (cI, 35942, .inl mrow)), (h0_30, .inl (cZ, 240, .inl (fun _ => 0)))]) ⟨hx, hb, hml, hown, hts⟩ (c_X12_told_v2 l G cI cJ cZ cD cR cT h0 h0_2 h0_3 h0_4 h0_5 h0_9 h0_10 h0_11 h0_20 h0_22 h0_23 h0_25 h0_26 h0_29 h0_30 h0_31 h0_32 h0_39 h0_40 h0_42 h0_44 h0_45 _) (cwV 1 hts gv_X12_go_94_X12_told_v2 rfl rfl rfl (by decide +kernel) ⟨Nat.le_of_ble_eq_true rfl, Nat.le_of_ble_eq_true rfl⟩) 0 rfl rfl rfl hKK hP hD hS hA [0] [1, 2] rfl rfl (by decide +kernel) (by decide +kernel) (by decide +kernel) rfl hl.1 rfl (lv_room (Nat.le_of_ble_eq_true rfl)) dX12_go_34 ⟨Nat.le_of_ble_eq_true rfl, Nat.le_of_ble_eq_true rfl⟩ (fun v20 q19 gq19 H locs hv20 => appW (ws' := [(h0_2, .inl (cI, 35942, .inl mrow)), (h0_30, .inl (cZ, 240, .inl (fun _ => 0))), (h0, .inr (12, [.int 0, .int (-1), .ref h0_2, .ref h0_3, .ref h0_4, .ref h0_5, .int 0, .int 0, .int 0, .ref h0_9, .ref h0_10, .ref h0_11, .int 0, .int 0, .int 0, .int 0, .long 0, .int (-1), .int 0, .int 0, .ref h0_20, .int 0, .ref h0_22, .ref h0_23, .int 0, .ref h0_25, .ref h0_26, .int 0, .int 0, .ref h0_29, .ref h0_30, .ref h0_31, .ref h0_32, .int 0, .long 0, .long 0, .long 0, .long 0, .int 0, .ref h0_39, .ref h0_40, .int 0, .ref h0_42, .int 0, .ref h0_44, .ref h0_45, .int 0, .int 0, .int 0, .int 0, .int 0, .int 0]))]) rfl (fun hP hD hS => ?_))
    obtain ⟨_, rfl, rfl⟩ := hv20
    exact retI hx hb hr hlocks ⟨_, rfl, by unfold F_go; (repeat' split) <;> first | rfl | (exfalso; omega)⟩ hP hD hS (fun _ => 0) (fun _ _ => 0) [] (by decide +kernel) rfl dX12_go_37
