theorem dX11_broke_0 : decode cX11_broke 0 = .ok (.aload_n 0, 1) := by decide +kernel
theorem dX11_broke_1 : decode cX11_broke 1 = .ok (.getfield 12, 3) := by decide +kernel
theorem dX11_broke_4 : decode cX11_broke 4 = .ok (.getfield 63, 3) := by decide +kernel
theorem dX11_broke_7 : decode cX11_broke 7 = .ok (.astore 5, 2) := by decide +kernel
theorem dX11_broke_9 : decode cX11_broke 9 = .ok (.aload 5, 2) := by decide +kernel
theorem dX11_broke_11 : decode cX11_broke 11 = .ok (.iload_n 1, 1) := by decide +kernel
theorem dX11_broke_12 : decode cX11_broke 12 = .ok (.invokevirtual 80, 3) := by decide +kernel
theorem dX11_broke_15 : decode cX11_broke 15 = .ok (.ifCond .eq 33, 3) := by decide +kernel
theorem dX11_broke_48 : decode cX11_broke 48 = .ok (.iconst (-1), 1) := by decide +kernel
theorem dX11_broke_49 : decode cX11_broke 49 = .ok (.ireturn, 1) := by decide +kernel
theorem dX11_least_0 : decode cX11_least 0 = .ok (.aload_n 0, 1) := by decide +kernel
theorem dX11_least_1 : decode cX11_least 1 = .ok (.getfield 12, 3) := by decide +kernel
theorem dX11_least_4 : decode cX11_least 4 = .ok (.getfield 255, 3) := by decide +kernel
theorem dX11_least_7 : decode cX11_least 7 = .ok (.bipush 13, 2) := by decide +kernel
theorem dX11_least_9 : decode cX11_least 9 = .ok (.idiv, 1) := by decide +kernel
theorem dX11_least_10 : decode cX11_least 10 = .ok (.istore_n 3, 1) := by decide +kernel
theorem dX11_least_11 : decode cX11_least 11 = .ok (.iload_n 2, 1) := by decide +kernel
theorem dX11_least_12 : decode cX11_least 12 = .ok (.iload_n 3, 1) := by decide +kernel
theorem dX11_least_13 : decode cX11_least 13 = .ok (.iconst 1, 1) := by decide +kernel
theorem dX11_least_14 : decode cX11_least 14 = .ok (.iadd, 1) := by decide +kernel
theorem dX11_least_15 : decode cX11_least 15 = .ok (.iload_n 3, 1) := by decide +kernel
theorem dX11_least_16 : decode cX11_least 16 = .ok (.bipush 8, 2) := by decide +kernel
theorem dX11_least_18 : decode cX11_least 18 = .ok (.iadd, 1) := by decide +kernel
theorem dX11_least_19 : decode cX11_least 19 = .ok (.invokestatic 54, 3) := by decide +kernel
theorem dX11_least_22 : decode cX11_least 22 = .ok (.ifCond .eq 33, 3) := by decide +kernel
theorem dX11_least_25 : decode cX11_least 25 = .ok (.aload_n 0, 1) := by decide +kernel
theorem dX11_least_26 : decode cX11_least 26 = .ok (.getfield 12, 3) := by decide +kernel
theorem dX11_least_29 : decode cX11_least 29 = .ok (.getfield 114, 3) := by decide +kernel
theorem dX11_least_32 : decode cX11_least 32 = .ok (.iload_n 1, 1) := by decide +kernel
theorem dX11_least_33 : decode cX11_least 33 = .ok (.invokevirtual 127, 3) := by decide +kernel
theorem dX11_least_36 : decode cX11_least 36 = .ok (.ifCond .eq 19, 3) := by decide +kernel
theorem dX11_least_55 : decode cX11_least 55 = .ok (.iconst (-1), 1) := by decide +kernel
theorem dX11_least_56 : decode cX11_least 56 = .ok (.ireturn, 1) := by decide +kernel
theorem dX11_offer_0 : decode cX11_offer 0 = .ok (.iload_n 1, 1) := by decide +kernel
theorem dX11_offer_1 : decode cX11_offer 1 = .ok (.sipush (-1000), 3) := by decide +kernel
theorem dX11_offer_4 : decode cX11_offer 4 = .ok (.sipush 1000, 3) := by decide +kernel
theorem dX11_offer_7 : decode cX11_offer 7 = .ok (.invokestatic 54, 3) := by decide +kernel
theorem dX11_offer_10 : decode cX11_offer 10 = .ok (.ifCond .eq 16, 3) := by decide +kernel
theorem dX11_offer_13 : decode cX11_offer 13 = .ok (.iload_n 2, 1) := by decide +kernel
theorem dX11_offer_14 : decode cX11_offer 14 = .ok (.sipush (-1000), 3) := by decide +kernel
theorem dX11_offer_17 : decode cX11_offer 17 = .ok (.sipush 1000, 3) := by decide +kernel
theorem dX11_offer_20 : decode cX11_offer 20 = .ok (.invokestatic 54, 3) := by decide +kernel
theorem dX11_offer_23 : decode cX11_offer 23 = .ok (.ifCond .ne 9, 3) := by decide +kernel
theorem dX11_offer_32 : decode cX11_offer 32 = .ok (.aload_n 0, 1) := by decide +kernel
theorem dX11_offer_33 : decode cX11_offer 33 = .ok (.getfield 12, 3) := by decide +kernel
theorem dX11_offer_36 : decode cX11_offer 36 = .ok (.getfield 98, 3) := by decide +kernel
theorem dX11_offer_39 : decode cX11_offer 39 = .ok (.getfield 297, 3) := by decide +kernel
theorem dX11_offer_42 : decode cX11_offer 42 = .ok (.bipush 9, 2) := by decide +kernel
theorem dX11_offer_44 : decode cX11_offer 44 = .ok (.if_icmp .lt 10, 3) := by decide +kernel
theorem dX11_offer_54 : decode cX11_offer 54 = .ok (.aload_n 0, 1) := by decide +kernel
theorem dX11_offer_55 : decode cX11_offer 55 = .ok (.aload_n 0, 1) := by decide +kernel
theorem dX11_offer_56 : decode cX11_offer 56 = .ok (.getfield 12, 3) := by decide +kernel
theorem dX11_offer_59 : decode cX11_offer 59 = .ok (.getfield 98, 3) := by decide +kernel
theorem dX11_offer_62 : decode cX11_offer 62 = .ok (.iload_n 1, 1) := by decide +kernel
theorem dX11_offer_63 : decode cX11_offer 63 = .ok (.iload_n 2, 1) := by decide +kernel
theorem dX11_offer_64 : decode cX11_offer 64 = .ok (.invokevirtual 300, 3) := by decide +kernel
theorem dX11_offer_67 : decode cX11_offer 67 = .ok (.invokevirtual 77, 3) := by decide +kernel
theorem dX11_offer_70 : decode cX11_offer 70 = .ok (.ireturn, 1) := by decide +kernel
theorem dX11_offer_26 : decode cX11_offer 26 = .ok (.aload_n 0, 1) := by decide +kernel
theorem dX11_offer_27 : decode cX11_offer 27 = .ok (.iconst (-1), 1) := by decide +kernel
theorem dX11_offer_28 : decode cX11_offer 28 = .ok (.invokevirtual 59, 3) := by decide +kernel
theorem dX11_offer_31 : decode cX11_offer 31 = .ok (.ireturn, 1) := by decide +kernel
theorem dX11_agree_0 : decode cX11_agree 0 = .ok (.iload_n 1, 1) := by decide +kernel
theorem dX11_agree_1 : decode cX11_agree 1 = .ok (.sipush (-10000), 3) := by decide +kernel
theorem dX11_agree_4 : decode cX11_agree 4 = .ok (.sipush 10000, 3) := by decide +kernel
theorem dX11_agree_7 : decode cX11_agree 7 = .ok (.invokestatic 54, 3) := by decide +kernel
theorem dX11_agree_10 : decode cX11_agree 10 = .ok (.ifCond .eq 16, 3) := by decide +kernel
theorem dX11_agree_13 : decode cX11_agree 13 = .ok (.iload_n 2, 1) := by decide +kernel
theorem dX11_agree_14 : decode cX11_agree 14 = .ok (.sipush (-10000), 3) := by decide +kernel
theorem dX11_agree_17 : decode cX11_agree 17 = .ok (.sipush 10000, 3) := by decide +kernel
theorem dX11_agree_20 : decode cX11_agree 20 = .ok (.invokestatic 54, 3) := by decide +kernel
theorem dX11_agree_23 : decode cX11_agree 23 = .ok (.ifCond .ne 5, 3) := by decide +kernel
theorem dX11_agree_28 : decode cX11_agree 28 = .ok (.aload_n 0, 1) := by decide +kernel
theorem dX11_agree_29 : decode cX11_agree 29 = .ok (.getfield 12, 3) := by decide +kernel
theorem dX11_agree_32 : decode cX11_agree 32 = .ok (.getfield 98, 3) := by decide +kernel
theorem dX11_agree_35 : decode cX11_agree 35 = .ok (.iload_n 1, 1) := by decide +kernel
theorem dX11_agree_36 : decode cX11_agree 36 = .ok (.iload_n 2, 1) := by decide +kernel
theorem dX11_agree_37 : decode cX11_agree 37 = .ok (.invokevirtual 303, 3) := by decide +kernel
theorem dX11_agree_40 : decode cX11_agree 40 = .ok (.ireturn, 1) := by decide +kernel
theorem dX11_agree_26 : decode cX11_agree 26 = .ok (.iconst (-1), 1) := by decide +kernel
theorem dX11_agree_27 : decode cX11_agree 27 = .ok (.ireturn, 1) := by decide +kernel
theorem dX11_wish_0 : decode cX11_wish 0 = .ok (.aload_n 0, 1) := by decide +kernel
theorem dX11_wish_1 : decode cX11_wish 1 = .ok (.getfield 12, 3) := by decide +kernel
theorem dX11_wish_4 : decode cX11_wish 4 = .ok (.getfield 114, 3) := by decide +kernel
theorem dX11_wish_7 : decode cX11_wish 7 = .ok (.iload_n 1, 1) := by decide +kernel
theorem dX11_wish_8 : decode cX11_wish 8 = .ok (.invokevirtual 150, 3) := by decide +kernel
theorem dX11_wish_11 : decode cX11_wish 11 = .ok (.ifCond .ne 10, 3) := by decide +kernel
theorem dX11_wish_14 : decode cX11_wish 14 = .ok (.aload_n 0, 1) := by decide +kernel
theorem dX11_wish_15 : decode cX11_wish 15 = .ok (.bipush (-2), 2) := by decide +kernel
theorem dX11_wish_17 : decode cX11_wish 17 = .ok (.invokevirtual 59, 3) := by decide +kernel
theorem dX11_wish_20 : decode cX11_wish 20 = .ok (.ireturn, 1) := by decide +kernel
theorem dX11_clear_0 : decode cX11_clear 0 = .ok (.aload_n 0, 1) := by decide +kernel
theorem dX11_clear_1 : decode cX11_clear 1 = .ok (.getfield 309, 3) := by decide +kernel
theorem dX11_clear_4 : decode cX11_clear 4 = .ok (.istore_n 1, 1) := by decide +kernel
theorem dX11_clear_5 : decode cX11_clear 5 = .ok (.aload_n 0, 1) := by decide +kernel
theorem dX11_clear_6 : decode cX11_clear 6 = .ok (.iconst 0, 1) := by decide +kernel
theorem dX11_clear_7 : decode cX11_clear 7 = .ok (.putfield 309, 3) := by decide +kernel
theorem dX11_clear_10 : decode cX11_clear 10 = .ok (.aload_n 0, 1) := by decide +kernel
theorem dX11_clear_11 : decode cX11_clear 11 = .ok (.iconst 0, 1) := by decide +kernel
theorem dX11_clear_12 : decode cX11_clear 12 = .ok (.putfield 312, 3) := by decide +kernel
theorem dX11_clear_15 : decode cX11_clear 15 = .ok (.iload_n 1, 1) := by decide +kernel
theorem dX11_clear_16 : decode cX11_clear 16 = .ok (.ireturn, 1) := by decide +kernel
theorem dX11_crops_0 : decode cX11_crops 0 = .ok (.iload_n 1, 1) := by decide +kernel
theorem dX11_crops_1 : decode cX11_crops 1 = .ok (.iconst 0, 1) := by decide +kernel
theorem dX11_crops_2 : decode cX11_crops 2 = .ok (.sipush 10000, 3) := by decide +kernel
theorem dX11_crops_5 : decode cX11_crops 5 = .ok (.invokestatic 54, 3) := by decide +kernel
theorem dX11_crops_8 : decode cX11_crops 8 = .ok (.ifCond .eq 14, 3) := by decide +kernel
theorem dX11_crops_11 : decode cX11_crops 11 = .ok (.iload_n 2, 1) := by decide +kernel
theorem dX11_crops_12 : decode cX11_crops 12 = .ok (.iconst 0, 1) := by decide +kernel
theorem dX11_crops_13 : decode cX11_crops 13 = .ok (.sipush 10000, 3) := by decide +kernel
theorem dX11_crops_16 : decode cX11_crops 16 = .ok (.invokestatic 54, 3) := by decide +kernel
theorem dX11_crops_19 : decode cX11_crops 19 = .ok (.ifCond .ne 9, 3) := by decide +kernel
theorem dX11_crops_28 : decode cX11_crops 28 = .ok (.aload_n 0, 1) := by decide +kernel
theorem dX11_crops_29 : decode cX11_crops 29 = .ok (.getfield 312, 3) := by decide +kernel
theorem dX11_crops_32 : decode cX11_crops 32 = .ok (.iconst 3, 1) := by decide +kernel
theorem dX11_crops_33 : decode cX11_crops 33 = .ok (.if_icmp .lt 10, 3) := by decide +kernel
theorem dX11_crops_43 : decode cX11_crops 43 = .ok (.aload_n 0, 1) := by decide +kernel
theorem dX11_crops_44 : decode cX11_crops 44 = .ok (.getfield 45, 3) := by decide +kernel
theorem dX11_crops_47 : decode cX11_crops 47 = .ok (.aload_n 0, 1) := by decide +kernel
theorem dX11_crops_48 : decode cX11_crops 48 = .ok (.getfield 312, 3) := by decide +kernel
theorem dX11_crops_51 : decode cX11_crops 51 = .ok (.iload_n 1, 1) := by decide +kernel
theorem dX11_crops_52 : decode cX11_crops 52 = .ok (.iastore, 1) := by decide +kernel
theorem dX11_crops_53 : decode cX11_crops 53 = .ok (.aload_n 0, 1) := by decide +kernel
theorem dX11_crops_54 : decode cX11_crops 54 = .ok (.getfield 48, 3) := by decide +kernel
theorem dX11_crops_57 : decode cX11_crops 57 = .ok (.aload_n 0, 1) := by decide +kernel
theorem dX11_crops_58 : decode cX11_crops 58 = .ok (.getfield 312, 3) := by decide +kernel
theorem dX11_crops_61 : decode cX11_crops 61 = .ok (.iload_n 2, 1) := by decide +kernel
theorem dX11_crops_62 : decode cX11_crops 62 = .ok (.iastore, 1) := by decide +kernel
theorem dX11_crops_63 : decode cX11_crops 63 = .ok (.aload_n 0, 1) := by decide +kernel
theorem dX11_crops_64 : decode cX11_crops 64 = .ok (.dup, 1) := by decide +kernel
theorem dX11_crops_65 : decode cX11_crops 65 = .ok (.getfield 312, 3) := by decide +kernel
theorem dX11_crops_68 : decode cX11_crops 68 = .ok (.iconst 1, 1) := by decide +kernel
theorem dX11_crops_69 : decode cX11_crops 69 = .ok (.iadd, 1) := by decide +kernel
theorem dX11_crops_70 : decode cX11_crops 70 = .ok (.putfield 312, 3) := by decide +kernel
theorem dX11_crops_73 : decode cX11_crops 73 = .ok (.aload_n 0, 1) := by decide +kernel
theorem dX11_crops_74 : decode cX11_crops 74 = .ok (.aload_n 0, 1) := by decide +kernel
theorem dX11_crops_75 : decode cX11_crops 75 = .ok (.getfield 312, 3) := by decide +kernel
theorem dX11_crops_78 : decode cX11_crops 78 = .ok (.invokevirtual 77, 3) := by decide +kernel
theorem dX11_crops_81 : decode cX11_crops 81 = .ok (.ireturn, 1) := by decide +kernel
theorem dX11_crops_22 : decode cX11_crops 22 = .ok (.aload_n 0, 1) := by decide +kernel
theorem dX11_crops_23 : decode cX11_crops 23 = .ok (.iconst (-1), 1) := by decide +kernel
theorem dX11_crops_24 : decode cX11_crops 24 = .ok (.invokevirtual 59, 3) := by decide +kernel
theorem dX11_crops_27 : decode cX11_crops 27 = .ok (.ireturn, 1) := by decide +kernel
theorem dX11_choose_0 : decode cX11_choose 0 = .ok (.aload_n 0, 1) := by decide +kernel
theorem dX11_choose_1 : decode cX11_choose 1 = .ok (.iload_n 1, 1) := by decide +kernel
theorem dX11_choose_2 : decode cX11_choose 2 = .ok (.invokevirtual 315, 3) := by decide +kernel
theorem dX11_choose_5 : decode cX11_choose 5 = .ok (.ifCond .ne 5, 3) := by decide +kernel
theorem dX11_choose_8 : decode cX11_choose 8 = .ok (.iconst (-1), 1) := by decide +kernel
theorem dX11_choose_9 : decode cX11_choose 9 = .ok (.ireturn, 1) := by decide +kernel
theorem dX11_chosen_0 : decode cX11_chosen 0 = .ok (.iload_n 1, 1) := by decide +kernel
theorem dX11_chosen_1 : decode cX11_chosen 1 = .ok (.iconst 0, 1) := by decide +kernel
theorem dX11_chosen_2 : decode cX11_chosen 2 = .ok (.aload_n 0, 1) := by decide +kernel
theorem dX11_chosen_3 : decode cX11_chosen 3 = .ok (.getfield 329, 3) := by decide +kernel
theorem dX11_chosen_6 : decode cX11_chosen 6 = .ok (.iconst 1, 1) := by decide +kernel
theorem dX11_chosen_7 : decode cX11_chosen 7 = .ok (.isub, 1) := by decide +kernel
theorem dX11_chosen_8 : decode cX11_chosen 8 = .ok (.invokestatic 54, 3) := by decide +kernel
theorem dX11_chosen_11 : decode cX11_chosen 11 = .ok (.ifCond .eq 12, 3) := by decide +kernel
theorem dX11_chosen_23 : decode cX11_chosen 23 = .ok (.iconst (-1), 1) := by decide +kernel
theorem dX11_chosen_24 : decode cX11_chosen 24 = .ok (.ireturn, 1) := by decide +kernel
def d_X11_broke : List Cond := [Cond.fieldLink RX11 12 "NoRent" "county" "LNoRent$County;", Cond.fieldLink RX11 63 "NoRent$County" "people" "LNoRent$People;", Cond.methodLink RX11 80 yX4_has, Cond.instanceMethod yX4_has, Cond.selects RX4 yX4_has yX4_has, Cond.initialized RX4]
def v_X11_broke : List Cond := Cond.code yX11_broke cX11_broke 10 (some .int) :: (d_X11_broke ++ (wsX110 ++ (wsX00 ++ (v_X4_has ++ ([] : List Cond)))))
theorem cm_X11_broke_0 : ∀ w ∈ wsX110, w ∈ v_X11_broke := fun _ h => List.mem_cons_of_mem _ (List.mem_append_right _ (List.mem_append_left _ h))
theorem cm_X11_broke_1 : ∀ w ∈ wsX00, w ∈ v_X11_broke := fun _ h => List.mem_cons_of_mem _ (List.mem_append_right _ (List.mem_append_right _ (List.mem_append_left _ h)))
theorem cm_X11_broke_2 : ∀ w ∈ v_X4_has, w ∈ v_X11_broke := fun _ h => List.mem_cons_of_mem _ (List.mem_append_right _ (List.mem_append_right _ (List.mem_append_right _ (List.mem_append_left _ h))))
theorem gd_X11_broke : Gd v_X11_broke := gd_mk (by decide +kernel) (gd_app gd_X11 (gd_app gd_X0 (gd_app gd_X4_has gd_nil)))
set_option maxRecDepth 20000 in
theorem gv_X11_broke_80_X4_has : GoodIn v_X11_broke (wsV RX11 80 RX4 yX4_has v_X4_has) := goodIn_app (goodIn_of _ (by decide +kernel)) (gi cm_X11_broke_2 gd_X4_has)
set_option maxHeartbeats 4000000 in
set_option maxRecDepth 100000 in
theorem c_X11_broke (l : Launch) (G : va_G) (cI cJ cZ cD cR cT : ClassId) (h0 : Nat) (u1 : Int32) (u2 : Int32) (u3 : Int32) (u4 : Int32) (h0_0 : Nat) (h0_1 : Nat) (h0_2 : Nat) (h0_3 : Nat) (h0_6 : Nat) (h0_7 : Nat) (h0_8 : Nat) (h0_10 : Nat) (h0_11 : Nat) (h0_13 : Nat) (h0_0_0 : Nat) (h0_0_1 : Nat) (h0_0_2 : Nat) (h0_0_3 : Nat) (h0_0_4 : Nat) (h0_0_5 : Nat) (h0_0_8 : Nat) (h0_0_15 : Nat) (h0_0_16 : Nat) (h0_0_0_1 : Nat) (h0_0_0_2 : Nat) (h0_0_0_3 : Nat) (h0_0_0_4 : Nat) (h0_0_0_5 : Nat) (h0_0_0_6 : Nat) (h0_0_0_7 : Nat) (h0_0_0_8 : Nat) (h0_0_0_9 : Nat) (sz : Nat) : Met l yX11_broke v_X11_broke ({ frames := 2, cells := 0, slots := 0, locals := 61 }) (va_Pc [.ref h0, .int u1, .int u2, .int u3, .int u4] (PreW G (tys6 cI cJ cZ cD cR cT) [(h0, .inr (11, [.ref h0_0, .ref h0_1, .ref h0_2, .ref h0_3, .int 0, .int 0, .ref h0_6, .ref h0_7, .ref h0_8, .int 0, .ref h0_10, .ref h0_11, .int 0, .ref h0_13, .int 0, .int 0])), (h0_0, .inr (0, [.ref h0_0_0, .ref h0_0_1, .ref h0_0_2, .ref h0_0_3, .ref h0_0_4, .ref h0_0_5, .int 0, .int 0, .ref h0_0_8, .int 0, .int 0, .int 0, .int 0, .long 0, .int 0, .ref h0_0_15, .ref h0_0_16])), (h0_0_0, .inr (4, [.int 0, .ref h0_0_0_1, .ref h0_0_0_2, .ref h0_0_0_3, .ref h0_0_0_4, .ref h0_0_0_5, .ref h0_0_0_6, .ref h0_0_0_7, .ref h0_0_0_8, .ref h0_0_0_9]))] sz)) (QW (RI (fun r => r = F_broke u1 u2 u3 u4)) G (va_A [(h0, .inr (11, [.ref h0_0, .ref h0_1, .ref h0_2, .ref h0_3, .int 0, .int 0, .ref h0_6, .ref h0_7, .ref h0_8, .int 0, .ref h0_10, .ref h0_11, .int 0, .ref h0_13, .int 0, .int 0])), (h0_0, .inr (0, [.ref h0_0_0, .ref h0_0_1, .ref h0_0_2, .ref h0_0_3, .ref h0_0_4, .ref h0_0_5, .int 0, .int 0, .ref h0_0_8, .int 0, .int 0, .int 0, .int 0, .long 0, .int 0, .ref h0_0_15, .ref h0_0_16])), (h0_0_0, .inr (4, [.int 0, .ref h0_0_0_1, .ref h0_0_0_2, .ref h0_0_0_3, .ref h0_0_0_4, .ref h0_0_0_5, .ref h0_0_0_6, .ref h0_0_0_7, .ref h0_0_0_8, .ref h0_0_0_9]))] sz) (fun q g => [])) 0 0 (va_A [(h0, .inr (11, [.ref h0_0, .ref h0_1, .ref h0_2, .ref h0_3, .int 0, .int 0, .ref h0_6, .ref h0_7, .ref h0_8, .int 0, .ref h0_10, .ref h0_11, .int 0, .ref h0_13, .int 0, .int 0])), (h0_0, .inr (0, [.ref h0_0_0, .ref h0_0_1, .ref h0_0_2, .ref h0_0_3, .ref h0_0_4, .ref h0_0_5, .int 0, .int 0, .ref h0_0_8, .int 0, .int 0, .int 0, .int 0, .long 0, .int 0, .ref h0_0_15, .ref h0_0_16])), (h0_0_0, .inr (4, [.int 0, .ref h0_0_0_1, .ref h0_0_0_2, .ref h0_0_0_3, .ref h0_0_0_4, .ref h0_0_0_5, .ref h0_0_0_6, .ref h0_0_0_7, .ref h0_0_0_8, .ref h0_0_0_9]))] sz) := by
  refine metW (cc := cX11_broke) (maxL := 10) (ret := (some .int)) (by decide) rfl (Nat.le_of_ble_eq_true rfl) ?_
  intro p e s m below meth c A ls hx hb hr hml hown hts hlocks hin hKK hP hD hA hS hl
  have hK := hKK.1
  have hown : s.vm.findClass RX11 = some m.cls := hown
  have hl : lv_has ls 10 [(0, .ref h0), (1, .int u1), (2, .int u2), (3, .int u3), (4, .int u4)] := hl
  have hP : va_P G vwCl [(h0, .inr (11, [.ref h0_0, .ref h0_1, .ref h0_2, .ref h0_3, .int 0, .int 0, .ref h0_6, .ref h0_7, .ref h0_8, .int 0, .ref h0_10, .ref h0_11, .int 0, .ref h0_13, .int 0, .int 0])), (h0_0, .inr (0, [.ref h0_0_0, .ref h0_0_1, .ref h0_0_2, .ref h0_0_3, .ref h0_0_4, .ref h0_0_5, .int 0, .int 0, .ref h0_0_8, .int 0, .int 0, .int 0, .int 0, .long 0, .int 0, .ref h0_0_15, .ref h0_0_16])), (h0_0_0, .inr (4, [.int 0, .ref h0_0_0_1, .ref h0_0_0_2, .ref h0_0_0_3, .ref h0_0_0_4, .ref h0_0_0_5, .ref h0_0_0_6, .ref h0_0_0_7, .ref h0_0_0_8, .ref h0_0_0_9]))] s.heap := hP
  have hD : va_D A [(h0, .inr (11, [.ref h0_0, .ref h0_1, .ref h0_2, .ref h0_3, .int 0, .int 0, .ref h0_6, .ref h0_7, .ref h0_8, .int 0, .ref h0_10, .ref h0_11, .int 0, .ref h0_13, .int 0, .int 0])), (h0_0, .inr (0, [.ref h0_0_0, .ref h0_0_1, .ref h0_0_2, .ref h0_0_3, .ref h0_0_4, .ref h0_0_5, .int 0, .int 0, .ref h0_0_8, .int 0, .int 0, .int 0, .int 0, .long 0, .int 0, .ref h0_0_15, .ref h0_0_16])), (h0_0_0, .inr (4, [.int 0, .ref h0_0_0_1, .ref h0_0_0_2, .ref h0_0_0_3, .ref h0_0_0_4, .ref h0_0_0_5, .ref h0_0_0_6, .ref h0_0_0_7, .ref h0_0_0_8, .ref h0_0_0_9]))] := hD
  refine lv_aload_n hx hb dX11_broke_0 rfl (lv_at hl 0 rfl) ?_
  refine va_get (D := G) (ci := 11) (v := .ref h0_0) (C := RX11) (T := TX11) (N := 16) hx hb hts cm_X11_broke_0 hown hK hP 0 rfl rfl 0 (by decide) (hts _ (dmem (j := 0) rfl)) (fun _ h9 => h9) rfl dX11_broke_1 ?_
  refine va_get (D := G) (ci := 0) (v := .ref h0_0_0) (C := RX0) (T := TX0) (N := 17) hx hb hts cm_X11_broke_1 hown hK hP 1 rfl rfl 0 (by decide) (hts _ (dmem (j := 1) rfl)) (fun _ h9 => h9) rfl dX11_broke_4 ?_
  refine lv_astore (lv' := [(5, .ref h0_0_0), (0, .ref h0), (1, .int u1), (2, .int u2), (3, .int u3), (4, .int u4)]) hx hb dX11_broke_7 hl (by decide) rfl (fun ls hl => ?_)
  refine lv_aload hx hb dX11_broke_9 (lv_at hl 0 rfl) ?_
  refine lv_iload_n hx hb dX11_broke_11 rfl (lv_at hl 2 rfl) ?_
  refine goV (As := [.int u1]) (rest := []) (wr := [(h0, .inr (11, [.ref h0_0, .ref h0_1, .ref h0_2, .ref h0_3, .int 0, .int 0, .ref h0_6, .ref h0_7, .ref h0_8, .int 0, .ref h0_10, .ref h0_11, .int 0, .ref h0_13, .int 0, .int 0])), (h0_0, .inr (0, [.ref h0_0_0, .ref h0_0_1, .ref h0_0_2, .ref h0_0_3, .ref h0_0_4, .ref h0_0_5, .int 0, .int 0, .ref h0_0_8, .int 0, .int 0, .int 0, .int 0, .long 0, .int 0, .ref h0_0_15, .ref h0_0_16]))]) ⟨hx, hb, hml, hown, hts⟩ (c_X4_has l G cI cJ cZ cD cR cT h0_0_0 u1 h0_0_0_1 h0_0_0_2 h0_0_0_3 h0_0_0_4 h0_0_0_5 h0_0_0_6 h0_0_0_7 h0_0_0_8 h0_0_0_9 _) (cwV 1 hts gv_X11_broke_80_X4_has rfl rfl rfl (by decide +kernel) ⟨Nat.le_of_ble_eq_true rfl, Nat.le_of_ble_eq_true rfl⟩) 2 rfl rfl rfl hKK hP hD hS hA [2] [0, 1] rfl rfl (by decide +kernel) (by decide +kernel) (by decide +kernel) rfl hl.1 rfl (lv_room (Nat.le_of_ble_eq_true rfl)) dX11_broke_12 ⟨Nat.le_of_ble_eq_true rfl, Nat.le_of_ble_eq_true rfl⟩ (fun v2 q1 gq1 H locs hv2 => appW (ws' := [(h0, .inr (11, [.ref h0_0, .ref h0_1, .ref h0_2, .ref h0_3, .int 0, .int 0, .ref h0_6, .ref h0_7, .ref h0_8, .int 0, .ref h0_10, .ref h0_11, .int 0, .ref h0_13, .int 0, .int 0])), (h0_0, .inr (0, [.ref h0_0_0, .ref h0_0_1, .ref h0_0_2, .ref h0_0_3, .ref h0_0_4, .ref h0_0_5, .int 0, .int 0, .ref h0_0_8, .int 0, .int 0, .int 0, .int 0, .long 0, .int 0, .ref h0_0_15, .ref h0_0_16])), (h0_0_0, .inr (4, [.int 0, .ref h0_0_0_1, .ref h0_0_0_2, .ref h0_0_0_3, .ref h0_0_0_4, .ref h0_0_0_5, .ref h0_0_0_6, .ref h0_0_0_7, .ref h0_0_0_8, .ref h0_0_0_9]))]) rfl (fun hP hD hS => ?_))
  obtain ⟨_, rfl, rfl⟩ := hv2
  refine lv_if_eq (tgt := 48) hx hb dX11_broke_15 (by decide) (fun _ => ?_) (fun c => absurd c (by decide))
  refine lv_iconst (v := (-1)) hx hb dX11_broke_48 (by decide) ?_
  exact retI hx hb hr hlocks ⟨_, rfl, by have hz0 : (0 : Int32).toInt = 0 := rfl; have hz1 : (1 : Int32).toInt = 1 := rfl; unfold F_broke; (repeat' split) <;> first | rfl | (exfalso; omega)⟩ hP hD hS (fun _ => 0) (fun _ _ => 0) [] (by decide +kernel) rfl dX11_broke_49
def d_X11_least : List Cond := [Cond.fieldLink RX11 12 "NoRent" "county" "LNoRent$County;", Cond.fieldLink RX11 255 "NoRent$County" "now" "I", Cond.methodLink RX11 54 yX11_within, Cond.static yX11_within, Cond.initialized RX11, Cond.fieldLink RX11 114 "NoRent$County" "land" "LNoRent$Land;", Cond.methodLink RX11 127 yX1_hasEstate, Cond.instanceMethod yX1_hasEstate, Cond.selects RX1 yX1_hasEstate yX1_hasEstate, Cond.initialized RX1]
def v_X11_least : List Cond := Cond.code yX11_least cX11_least 4 (some .int) :: (d_X11_least ++ (wsX110 ++ (wsX00 ++ (v_X11_within ++ (v_X1_hasEstate ++ ([] : List Cond))))))
theorem cm_X11_least_0 : ∀ w ∈ wsX110, w ∈ v_X11_least := fun _ h => List.mem_cons_of_mem _ (List.mem_append_right _ (List.mem_append_left _ h))
theorem cm_X11_least_1 : ∀ w ∈ wsX00, w ∈ v_X11_least := fun _ h => List.mem_cons_of_mem _ (List.mem_append_right _ (List.mem_append_right _ (List.mem_append_left _ h)))
theorem cm_X11_least_2 : ∀ w ∈ v_X11_within, w ∈ v_X11_least := fun _ h => List.mem_cons_of_mem _ (List.mem_append_right _ (List.mem_append_right _ (List.mem_append_right _ (List.mem_append_left _ h))))
theorem cm_X11_least_3 : ∀ w ∈ v_X1_hasEstate, w ∈ v_X11_least := fun _ h => List.mem_cons_of_mem _ (List.mem_append_right _ (List.mem_append_right _ (List.mem_append_right _ (List.mem_append_right _ (List.mem_append_left _ h)))))
theorem gd_X11_least : Gd v_X11_least := gd_mk (by decide +kernel) (gd_app gd_X11 (gd_app gd_X0 (gd_app gd_X11_within (gd_app gd_X1_hasEstate gd_nil))))
set_option maxRecDepth 20000 in
theorem gv_X11_least_54_X11_within : GoodIn v_X11_least (va_wsS RX11 54 yX11_within v_X11_within) := goodIn_app (goodIn_of _ (by decide +kernel)) (gi cm_X11_least_2 gd_X11_within)
set_option maxRecDepth 20000 in
theorem gv_X11_least_127_X1_hasEstate : GoodIn v_X11_least (wsV RX11 127 RX1 yX1_hasEstate v_X1_hasEstate) := goodIn_app (goodIn_of _ (by decide +kernel)) (gi cm_X11_least_3 gd_X1_hasEstate)
set_option maxHeartbeats 4000000 in
set_option maxRecDepth 100000 in
theorem c_X11_least (l : Launch) (G : va_G) (cI cJ cZ cD cR cT : ClassId) (h0 : Nat) (u1 : Int32) (u2 : Int32) (h0_0 : Nat) (h0_1 : Nat) (h0_2 : Nat) (h0_3 : Nat) (h0_6 : Nat) (h0_7 : Nat) (h0_8 : Nat) (h0_10 : Nat) (h0_11 : Nat) (h0_13 : Nat) (h0_0_0 : Nat) (h0_0_1 : Nat) (h0_0_2 : Nat) (h0_0_3 : Nat) (h0_0_4 : Nat) (h0_0_5 : Nat) (h0_0_8 : Nat) (h0_0_15 : Nat) (h0_0_16 : Nat) (h0_0_1_1 : Nat) (h0_0_1_2 : Nat) (h0_0_1_3 : Nat) (h0_0_1_4 : Nat) (h0_0_1_5 : Nat) (h0_0_1_6 : Nat) (h0_0_1_7 : Nat) (h0_0_1_9 : Nat) (h0_0_1_10 : Nat) (h0_0_1_11 : Nat) (sz : Nat) : Met l yX11_least v_X11_least ({ frames := 2, cells := 0, slots := 0, locals := 62 }) (va_Pc [.ref h0, .int u1, .int u2] (PreW G (tys6 cI cJ cZ cD cR cT) [(h0, .inr (11, [.ref h0_0, .ref h0_1, .ref h0_2, .ref h0_3, .int 0, .int 0, .ref h0_6, .ref h0_7, .ref h0_8, .int 0, .ref h0_10, .ref h0_11, .int 0, .ref h0_13, .int 0, .int 0])), (h0_0, .inr (0, [.ref h0_0_0, .ref h0_0_1, .ref h0_0_2, .ref h0_0_3, .ref h0_0_4, .ref h0_0_5, .int 0, .int 0, .ref h0_0_8, .int 0, .int 0, .int 0, .int 0, .long 0, .int 0, .ref h0_0_15, .ref h0_0_16])), (h0_0_1, .inr (1, [.int 0, .ref h0_0_1_1, .ref h0_0_1_2, .ref h0_0_1_3, .ref h0_0_1_4, .ref h0_0_1_5, .ref h0_0_1_6, .ref h0_0_1_7, .int 0, .ref h0_0_1_9, .ref h0_0_1_10, .ref h0_0_1_11, .int (-1), .long 0, .long 0]))] sz)) (QW (RI (fun r => r = F_least u1 u2)) G (va_A [(h0, .inr (11, [.ref h0_0, .ref h0_1, .ref h0_2, .ref h0_3, .int 0, .int 0, .ref h0_6, .ref h0_7, .ref h0_8, .int 0, .ref h0_10, .ref h0_11, .int 0, .ref h0_13, .int 0, .int 0])), (h0_0, .inr (0, [.ref h0_0_0, .ref h0_0_1, .ref h0_0_2, .ref h0_0_3, .ref h0_0_4, .ref h0_0_5, .int 0, .int 0, .ref h0_0_8, .int 0, .int 0, .int 0, .int 0, .long 0, .int 0, .ref h0_0_15, .ref h0_0_16])), (h0_0_1, .inr (1, [.int 0, .ref h0_0_1_1, .ref h0_0_1_2, .ref h0_0_1_3, .ref h0_0_1_4, .ref h0_0_1_5, .ref h0_0_1_6, .ref h0_0_1_7, .int 0, .ref h0_0_1_9, .ref h0_0_1_10, .ref h0_0_1_11, .int (-1), .long 0, .long 0]))] sz) (fun q g => [])) 0 0 (va_A [(h0, .inr (11, [.ref h0_0, .ref h0_1, .ref h0_2, .ref h0_3, .int 0, .int 0, .ref h0_6, .ref h0_7, .ref h0_8, .int 0, .ref h0_10, .ref h0_11, .int 0, .ref h0_13, .int 0, .int 0])), (h0_0, .inr (0, [.ref h0_0_0, .ref h0_0_1, .ref h0_0_2, .ref h0_0_3, .ref h0_0_4, .ref h0_0_5, .int 0, .int 0, .ref h0_0_8, .int 0, .int 0, .int 0, .int 0, .long 0, .int 0, .ref h0_0_15, .ref h0_0_16])), (h0_0_1, .inr (1, [.int 0, .ref h0_0_1_1, .ref h0_0_1_2, .ref h0_0_1_3, .ref h0_0_1_4, .ref h0_0_1_5, .ref h0_0_1_6, .ref h0_0_1_7, .int 0, .ref h0_0_1_9, .ref h0_0_1_10, .ref h0_0_1_11, .int (-1), .long 0, .long 0]))] sz) := by
  refine metW (cc := cX11_least) (maxL := 4) (ret := (some .int)) (by decide) rfl (Nat.le_of_ble_eq_true rfl) ?_
  intro p e s m below meth c A ls hx hb hr hml hown hts hlocks hin hKK hP hD hA hS hl
  have hK := hKK.1
  have hown : s.vm.findClass RX11 = some m.cls := hown
  have hl : lv_has ls 4 [(0, .ref h0), (1, .int u1), (2, .int u2)] := hl
  have hP : va_P G vwCl [(h0, .inr (11, [.ref h0_0, .ref h0_1, .ref h0_2, .ref h0_3, .int 0, .int 0, .ref h0_6, .ref h0_7, .ref h0_8, .int 0, .ref h0_10, .ref h0_11, .int 0, .ref h0_13, .int 0, .int 0])), (h0_0, .inr (0, [.ref h0_0_0, .ref h0_0_1, .ref h0_0_2, .ref h0_0_3, .ref h0_0_4, .ref h0_0_5, .int 0, .int 0, .ref h0_0_8, .int 0, .int 0, .int 0, .int 0, .long 0, .int 0, .ref h0_0_15, .ref h0_0_16])), (h0_0_1, .inr (1, [.int 0, .ref h0_0_1_1, .ref h0_0_1_2, .ref h0_0_1_3, .ref h0_0_1_4, .ref h0_0_1_5, .ref h0_0_1_6, .ref h0_0_1_7, .int 0, .ref h0_0_1_9, .ref h0_0_1_10, .ref h0_0_1_11, .int (-1), .long 0, .long 0]))] s.heap := hP
  have hD : va_D A [(h0, .inr (11, [.ref h0_0, .ref h0_1, .ref h0_2, .ref h0_3, .int 0, .int 0, .ref h0_6, .ref h0_7, .ref h0_8, .int 0, .ref h0_10, .ref h0_11, .int 0, .ref h0_13, .int 0, .int 0])), (h0_0, .inr (0, [.ref h0_0_0, .ref h0_0_1, .ref h0_0_2, .ref h0_0_3, .ref h0_0_4, .ref h0_0_5, .int 0, .int 0, .ref h0_0_8, .int 0, .int 0, .int 0, .int 0, .long 0, .int 0, .ref h0_0_15, .ref h0_0_16])), (h0_0_1, .inr (1, [.int 0, .ref h0_0_1_1, .ref h0_0_1_2, .ref h0_0_1_3, .ref h0_0_1_4, .ref h0_0_1_5, .ref h0_0_1_6, .ref h0_0_1_7, .int 0, .ref h0_0_1_9, .ref h0_0_1_10, .ref h0_0_1_11, .int (-1), .long 0, .long 0]))] := hD
  refine lv_aload_n hx hb dX11_least_0 rfl (lv_at hl 0 rfl) ?_
  refine va_get (D := G) (ci := 11) (v := .ref h0_0) (C := RX11) (T := TX11) (N := 16) hx hb hts cm_X11_least_0 hown hK hP 0 rfl rfl 0 (by decide) (hts _ (dmem (j := 0) rfl)) (fun _ h9 => h9) rfl dX11_least_1 ?_
  refine va_get (D := G) (ci := 0) (v := .int 0) (C := RX0) (T := TX0) (N := 17) hx hb hts cm_X11_least_1 hown hK hP 1 rfl rfl 6 (by decide) (hts _ (dmem (j := 1) rfl)) (fun _ h9 => h9) rfl dX11_least_4 ?_
  refine lv_bipush (v := 13) hx hb dX11_least_7 (by decide) ?_
  refine lv_idiv hx hb dX11_least_9 (by decide) ?_
  refine lv_topi (fun x1 ex1 => ?_)
  obtain rfl : 0 = x1 := (ex1.trans (by decide)).symm
  refine lv_istore_n (lv' := [(3, .int 0), (0, .ref h0), (1, .int u1), (2, .int u2)]) hx hb dX11_least_10 rfl hl (by decide) rfl (fun ls hl => ?_)
  refine lv_iload_n hx hb dX11_least_11 rfl (lv_at hl 3 rfl) ?_
  refine lv_iload_n hx hb dX11_least_12 rfl (lv_at hl 0 rfl) ?_
  refine lv_iconst (v := 1) hx hb dX11_least_13 (by decide) ?_
  refine lv_iadd hx hb dX11_least_14 ?_
  refine lv_topi (fun x2 ex2 => ?_)
  obtain rfl : 1 = x2 := (ex2.trans (by decide)).symm
  refine lv_iload_n hx hb dX11_least_15 rfl (lv_at hl 0 rfl) ?_
  refine lv_bipush (v := 8) hx hb dX11_least_16 (by decide) ?_
  refine lv_iadd hx hb dX11_least_18 ?_
  refine lv_topi (fun x3 ex3 => ?_)
  obtain rfl : 8 = x3 := (ex3.trans (by decide)).symm
  refine goS (As := [.int u2, .int 1, .int 8]) (rest := []) (wr := [(h0, .inr (11, [.ref h0_0, .ref h0_1, .ref h0_2, .ref h0_3, .int 0, .int 0, .ref h0_6, .ref h0_7, .ref h0_8, .int 0, .ref h0_10, .ref h0_11, .int 0, .ref h0_13, .int 0, .int 0])), (h0_0, .inr (0, [.ref h0_0_0, .ref h0_0_1, .ref h0_0_2, .ref h0_0_3, .ref h0_0_4, .ref h0_0_5, .int 0, .int 0, .ref h0_0_8, .int 0, .int 0, .int 0, .int 0, .long 0, .int 0, .ref h0_0_15, .ref h0_0_16])), (h0_0_1, .inr (1, [.int 0, .ref h0_0_1_1, .ref h0_0_1_2, .ref h0_0_1_3, .ref h0_0_1_4, .ref h0_0_1_5, .ref h0_0_1_6, .ref h0_0_1_7, .int 0, .ref h0_0_1_9, .ref h0_0_1_10, .ref h0_0_1_11, .int (-1), .long 0, .long 0]))]) ⟨hx, hb, hml, hown, hts⟩ (c_X11_within l G cI cJ cZ cD cR cT u2 1 8 u2.toInt 1 8 _ rfl (by decide) (by decide)) (va_cwS 3 hts gv_X11_least_54_X11_within rfl rfl rfl (by decide +kernel) ⟨Nat.le_of_ble_eq_true rfl, Nat.le_of_ble_eq_true rfl⟩) hKK hP hD hS hA [] [0, 1, 2] rfl rfl (by decide +kernel) (by decide +kernel) (by decide +kernel) rfl hl.1 rfl (lv_room (Nat.le_of_ble_eq_true rfl)) dX11_least_19 ⟨Nat.le_of_ble_eq_true rfl, Nat.le_of_ble_eq_true rfl⟩ (fun v5 q4 gq4 H locs hv5 => appW (ws' := [(h0, .inr (11, [.ref h0_0, .ref h0_1, .ref h0_2, .ref h0_3, .int 0, .int 0, .ref h0_6, .ref h0_7, .ref h0_8, .int 0, .ref h0_10, .ref h0_11, .int 0, .ref h0_13, .int 0, .int 0])), (h0_0, .inr (0, [.ref h0_0_0, .ref h0_0_1, .ref h0_0_2, .ref h0_0_3, .ref h0_0_4, .ref h0_0_5, .int 0, .int 0, .ref h0_0_8, .int 0, .int 0, .int 0, .int 0, .long 0, .int 0, .ref h0_0_15, .ref h0_0_16])), (h0_0_1, .inr (1, [.int 0, .ref h0_0_1_1, .ref h0_0_1_2, .ref h0_0_1_3, .ref h0_0_1_4, .ref h0_0_1_5, .ref h0_0_1_6, .ref h0_0_1_7, .int 0, .ref h0_0_1_9, .ref h0_0_1_10, .ref h0_0_1_11, .int (-1), .long 0, .long 0]))]) rfl (fun hP hD hS => ?_))
  obtain ⟨_, rfl, h7⟩ := hv5
  rcases h7 with ⟨rfl, h7⟩ | ⟨rfl, h7⟩
  · refine lv_if_eq (tgt := 55) hx hb dX11_least_22 (by decide) (fun c => absurd c (by decide)) (fun _ => ?_)
    refine lv_aload_n hx hb dX11_least_25 rfl (lv_at hl 1 rfl) ?_
    refine va_get (D := G) (ci := 11) (v := .ref h0_0) (C := RX11) (T := TX11) (N := 16) hx hb hts cm_X11_least_0 hown hK hP 0 rfl rfl 0 (by decide) (hts _ (dmem (j := 0) rfl)) (fun _ h9 => h9) rfl dX11_least_26 ?_
    refine va_get (D := G) (ci := 0) (v := .ref h0_0_1) (C := RX0) (T := TX0) (N := 17) hx hb hts cm_X11_least_1 hown hK hP 1 rfl rfl 1 (by decide) (hts _ (dmem (j := 5) rfl)) (fun _ h9 => h9) rfl dX11_least_29 ?_
    refine lv_iload_n hx hb dX11_least_32 rfl (lv_at hl 2 rfl) ?_
    refine goV (As := [.int u1]) (rest := []) (wr := [(h0, .inr (11, [.ref h0_0, .ref h0_1, .ref h0_2, .ref h0_3, .int 0, .int 0, .ref h0_6, .ref h0_7, .ref h0_8, .int 0, .ref h0_10, .ref h0_11, .int 0, .ref h0_13, .int 0, .int 0])), (h0_0, .inr (0, [.ref h0_0_0, .ref h0_0_1, .ref h0_0_2, .ref h0_0_3, .ref h0_0_4, .ref h0_0_5, .int 0, .int 0, .ref h0_0_8, .int 0, .int 0, .int 0, .int 0, .long 0, .int 0, .ref h0_0_15, .ref h0_0_16]))]) ⟨hx, hb, hml, hown, hts⟩ (c_X1_hasEstate l G cI cJ cZ cD cR cT h0_0_1 u1 h0_0_1_1 h0_0_1_2 h0_0_1_3 h0_0_1_4 h0_0_1_5 h0_0_1_6 h0_0_1_7 h0_0_1_9 h0_0_1_10 h0_0_1_11 _) (cwV 1 hts gv_X11_least_127_X1_hasEstate rfl rfl rfl (by decide +kernel) ⟨Nat.le_of_ble_eq_true rfl, Nat.le_of_ble_eq_true rfl⟩) 2 rfl rfl rfl hKK hP hD hS hA [2] [0, 1] rfl rfl (by decide +kernel) (by decide +kernel) (by decide +kernel) rfl hl.1 rfl (lv_room (Nat.le_of_ble_eq_true rfl)) dX11_least_33 ⟨Nat.le_of_ble_eq_true rfl, Nat.le_of_ble_eq_true rfl⟩ (fun v9 q8 gq8 H locs hv9 => appW (ws' := [(h0, .inr (11, [.ref h0_0, .ref h0_1, .ref h0_2, .ref h0_3, .int 0, .int 0, .ref h0_6, .ref h0_7, .ref h0_8, .int 0, .ref h0_10, .ref h0_11, .int 0, .ref h0_13, .int 0, .int 0])), (h0_0, .inr (0, [.ref h0_0_0, .ref h0_0_1, .ref h0_0_2, .ref h0_0_3, .ref h0_0_4, .ref h0_0_5, .int 0, .int 0, .ref h0_0_8, .int 0, .int 0, .int 0, .int 0, .long 0, .int 0, .ref h0_0_15, .ref h0_0_16])), (h0_0_1, .inr (1, [.int 0, .ref h0_0_1_1, .ref h0_0_1_2, .ref h0_0_1_3, .ref h0_0_1_4, .ref h0_0_1_5, .ref h0_0_1_6, .ref h0_0_1_7, .int 0, .ref h0_0_1_9, .ref h0_0_1_10, .ref h0_0_1_11, .int (-1), .long 0, .long 0]))]) rfl (fun hP hD hS => ?_))
    obtain ⟨_, rfl, rfl⟩ := hv9
    refine lv_if_eq (tgt := 55) hx hb dX11_least_36 (by decide) (fun _ => ?_) (fun c => absurd c (by decide))
    refine lv_iconst (v := (-1)) hx hb dX11_least_55 (by decide) ?_
    exact retI hx hb hr hlocks ⟨_, rfl, by have hz0 : (0 : Int32).toInt = 0 := rfl; have hz1 : (1 : Int32).toInt = 1 := rfl; unfold F_least; (repeat' split) <;> first | rfl | (exfalso; omega)⟩ hP hD hS (fun _ => 0) (fun _ _ => 0) [] (by decide +kernel) rfl dX11_least_56
  · refine lv_if_eq (tgt := 55) hx hb dX11_least_22 (by decide) (fun _ => ?_) (fun c => absurd c (by decide))
    refine lv_iconst (v := (-1)) hx hb dX11_least_55 (by decide) ?_
    exact retI hx hb hr hlocks ⟨_, rfl, by have hz0 : (0 : Int32).toInt = 0 := rfl; have hz1 : (1 : Int32).toInt = 1 := rfl; unfold F_least; (repeat' split) <;> first | rfl | (exfalso; omega)⟩ hP hD hS (fun _ => 0) (fun _ _ => 0) [] (by decide +kernel) rfl dX11_least_56
def d_X11_offer : List Cond := [Cond.methodLink RX11 54 yX11_within, Cond.static yX11_within, Cond.initialized RX11, Cond.fieldLink RX11 12 "NoRent" "county" "LNoRent$County;", Cond.fieldLink RX11 98 "NoRent$County" "league" "LNoRent$League;", Cond.fieldLink RX11 297 "NoRent$League" "offers" "I", Cond.methodLink RX11 300 yX3_addOffer, Cond.instanceMethod yX3_addOffer, Cond.selects RX3 yX3_addOffer yX3_addOffer, Cond.initialized RX3, Cond.methodLink RX11 77 yX11_accept, Cond.instanceMethod yX11_accept, Cond.selects RX11 yX11_accept yX11_accept, Cond.methodLink RX11 59 yX11_refuse, Cond.instanceMethod yX11_refuse, Cond.selects RX11 yX11_refuse yX11_refuse]
def v_X11_offer : List Cond := Cond.code yX11_offer cX11_offer 3 (some .int) :: (d_X11_offer ++ (v_X11_within ++ (wsX110 ++ (wsX00 ++ (wsX30 ++ (v_X3_addOffer ++ (v_X11_accept ++ (v_X11_refuse ++ ([] : List Cond)))))))))
theorem cm_X11_offer_0 : ∀ w ∈ v_X11_within, w ∈ v_X11_offer := fun _ h => List.mem_cons_of_mem _ (List.mem_append_right _ (List.mem_append_left _ h))
theorem cm_X11_offer_1 : ∀ w ∈ wsX110, w ∈ v_X11_offer := fun _ h => List.mem_cons_of_mem _ (List.mem_append_right _ (List.mem_append_right _ (List.mem_append_left _ h)))
theorem cm_X11_offer_2 : ∀ w ∈ wsX00, w ∈ v_X11_offer := fun _ h => List.mem_cons_of_mem _ (List.mem_append_right _ (List.mem_append_right _ (List.mem_append_right _ (List.mem_append_left _ h))))
theorem cm_X11_offer_3 : ∀ w ∈ wsX30, w ∈ v_X11_offer := fun _ h => List.mem_cons_of_mem _ (List.mem_append_right _ (List.mem_append_right _ (List.mem_append_right _ (List.mem_append_right _ (List.mem_append_left _ h)))))
theorem cm_X11_offer_4 : ∀ w ∈ v_X3_addOffer, w ∈ v_X11_offer := fun _ h => List.mem_cons_of_mem _ (List.mem_append_right _ (List.mem_append_right _ (List.mem_append_right _ (List.mem_append_right _ (List.mem_append_right _ (List.mem_append_left _ h))))))
theorem cm_X11_offer_5 : ∀ w ∈ v_X11_accept, w ∈ v_X11_offer := fun _ h => List.mem_cons_of_mem _ (List.mem_append_right _ (List.mem_append_right _ (List.mem_append_right _ (List.mem_append_right _ (List.mem_append_right _ (List.mem_append_right _ (List.mem_append_left _ h)))))))
theorem cm_X11_offer_6 : ∀ w ∈ v_X11_refuse, w ∈ v_X11_offer := fun _ h => List.mem_cons_of_mem _ (List.mem_append_right _ (List.mem_append_right _ (List.mem_append_right _ (List.mem_append_right _ (List.mem_append_right _ (List.mem_append_right _ (List.mem_append_right _ (List.mem_append_left _ h))))))))
theorem gd_X11_offer : Gd v_X11_offer := gd_mk (by decide +kernel) (gd_app gd_X11_within (gd_app gd_X11 (gd_app gd_X0 (gd_app gd_X3 (gd_app gd_X3_addOffer (gd_app gd_X11_accept (gd_app gd_X11_refuse gd_nil)))))))
set_option maxRecDepth 20000 in
theorem gv_X11_offer_54_X11_within : GoodIn v_X11_offer (va_wsS RX11 54 yX11_within v_X11_within) := goodIn_app (goodIn_of _ (by decide +kernel)) (gi cm_X11_offer_0 gd_X11_within)
set_option maxRecDepth 20000 in
theorem gv_X11_offer_300_X3_addOffer : GoodIn v_X11_offer (wsV RX11 300 RX3 yX3_addOffer v_X3_addOffer) := goodIn_app (goodIn_of _ (by decide +kernel)) (gi cm_X11_offer_4 gd_X3_addOffer)
set_option maxRecDepth 20000 in
theorem gv_X11_offer_77_X11_accept : GoodIn v_X11_offer (wsV RX11 77 RX11 yX11_accept v_X11_accept) := goodIn_app (goodIn_of _ (by decide +kernel)) (gi cm_X11_offer_5 gd_X11_accept)
set_option maxRecDepth 20000 in
theorem gv_X11_offer_59_X11_refuse : GoodIn v_X11_offer (wsV RX11 59 RX11 yX11_refuse v_X11_refuse) := goodIn_app (goodIn_of _ (by decide +kernel)) (gi cm_X11_offer_6 gd_X11_refuse)
set_option maxHeartbeats 4000000 in
set_option maxRecDepth 100000 in
theorem c_X11_offer (l : Launch) (G : va_G) (cI cJ cZ cD cR cT : ClassId) (h0 : Nat) (u1 : Int32) (u2 : Int32) (h0_0 : Nat) (h0_1 : Nat) (h0_2 : Nat) (h0_3 : Nat) (h0_6 : Nat) (h0_7 : Nat) (h0_8 : Nat) (h0_10 : Nat) (h0_11 : Nat) (h0_13 : Nat) (h0_0_0 : Nat) (h0_0_1 : Nat) (h0_0_2 : Nat) (h0_0_3 : Nat) (h0_0_4 : Nat) (h0_0_5 : Nat) (h0_0_8 : Nat) (h0_0_15 : Nat) (h0_0_16 : Nat) (h0_0_5_4 : Nat) (h0_0_5_5 : Nat) (sz : Nat) : Met l yX11_offer v_X11_offer ({ frames := 2, cells := 0, slots := 0, locals := 62 }) (va_Pc [.ref h0, .int u1, .int u2] (PreW G (tys6 cI cJ cZ cD cR cT) [(h0, .inr (11, [.ref h0_0, .ref h0_1, .ref h0_2, .ref h0_3, .int 0, .int 0, .ref h0_6, .ref h0_7, .ref h0_8, .int 0, .ref h0_10, .ref h0_11, .int 0, .ref h0_13, .int 0, .int 0])), (h0_0, .inr (0, [.ref h0_0_0, .ref h0_0_1, .ref h0_0_2, .ref h0_0_3, .ref h0_0_4, .ref h0_0_5, .int 0, .int 0, .ref h0_0_8, .int 0, .int 0, .int 0, .int 0, .long 0, .int 0, .ref h0_0_15, .ref h0_0_16])), (h0_0_5, .inr (3, [.int 0, .int 50, .int 0, .int 0, .ref h0_0_5_4, .ref h0_0_5_5])), (h0_0_5_4, .inl (cI, 9, .inl (fun _ => 0))), (h0_0_5_5, .inl (cI, 9, .inl (fun _ => 0)))] sz)) (QW (RI (fun r => r = F_offer u1 u2)) G (va_A [(h0, .inr (11, [.ref h0_0, .ref h0_1, .ref h0_2, .ref h0_3, .int 0, .int 0, .ref h0_6, .ref h0_7, .ref h0_8, .int 0, .ref h0_10, .ref h0_11, .int 0, .ref h0_13, .int 0, .int 0])), (h0_0, .inr (0, [.ref h0_0_0, .ref h0_0_1, .ref h0_0_2, .ref h0_0_3, .ref h0_0_4, .ref h0_0_5, .int 0, .int 0, .ref h0_0_8, .int 0, .int 0, .int 0, .int 0, .long 0, .int 0, .ref h0_0_15, .ref h0_0_16])), (h0_0_5, .inr (3, [.int 0, .int 50, .int 0, .int 0, .ref h0_0_5_4, .ref h0_0_5_5])), (h0_0_5_4, .inl (cI, 9, .inl (fun _ => 0))), (h0_0_5_5, .inl (cI, 9, .inl (fun _ => 0)))] sz) (fun q g => [])) 0 0 (va_A [(h0, .inr (11, [.ref h0_0, .ref h0_1, .ref h0_2, .ref h0_3, .int 0, .int 0, .ref h0_6, .ref h0_7, .ref h0_8, .int 0, .ref h0_10, .ref h0_11, .int 0, .ref h0_13, .int 0, .int 0])), (h0_0, .inr (0, [.ref h0_0_0, .ref h0_0_1, .ref h0_0_2, .ref h0_0_3, .ref h0_0_4, .ref h0_0_5, .int 0, .int 0, .ref h0_0_8, .int 0, .int 0, .int 0, .int 0, .long 0, .int 0, .ref h0_0_15, .ref h0_0_16])), (h0_0_5, .inr (3, [.int 0, .int 50, .int 0, .int 0, .ref h0_0_5_4, .ref h0_0_5_5])), (h0_0_5_4, .inl (cI, 9, .inl (fun _ => 0))), (h0_0_5_5, .inl (cI, 9, .inl (fun _ => 0)))] sz) := by
  refine metW (cc := cX11_offer) (maxL := 3) (ret := (some .int)) (by decide) rfl (Nat.le_of_ble_eq_true rfl) ?_
  intro p e s m below meth c A ls hx hb hr hml hown hts hlocks hin hKK hP hD hA hS hl
  have hK := hKK.1
  have hown : s.vm.findClass RX11 = some m.cls := hown
  have hl : lv_has ls 3 [(0, .ref h0), (1, .int u1), (2, .int u2)] := hl
  have hP : va_P G vwCl [(h0, .inr (11, [.ref h0_0, .ref h0_1, .ref h0_2, .ref h0_3, .int 0, .int 0, .ref h0_6, .ref h0_7, .ref h0_8, .int 0, .ref h0_10, .ref h0_11, .int 0, .ref h0_13, .int 0, .int 0])), (h0_0, .inr (0, [.ref h0_0_0, .ref h0_0_1, .ref h0_0_2, .ref h0_0_3, .ref h0_0_4, .ref h0_0_5, .int 0, .int 0, .ref h0_0_8, .int 0, .int 0, .int 0, .int 0, .long 0, .int 0, .ref h0_0_15, .ref h0_0_16])), (h0_0_5, .inr (3, [.int 0, .int 50, .int 0, .int 0, .ref h0_0_5_4, .ref h0_0_5_5])), (h0_0_5_4, .inl (cI, 9, .inl (fun _ => 0))), (h0_0_5_5, .inl (cI, 9, .inl (fun _ => 0)))] s.heap := hP
  have hD : va_D A [(h0, .inr (11, [.ref h0_0, .ref h0_1, .ref h0_2, .ref h0_3, .int 0, .int 0, .ref h0_6, .ref h0_7, .ref h0_8, .int 0, .ref h0_10, .ref h0_11, .int 0, .ref h0_13, .int 0, .int 0])), (h0_0, .inr (0, [.ref h0_0_0, .ref h0_0_1, .ref h0_0_2, .ref h0_0_3, .ref h0_0_4, .ref h0_0_5, .int 0, .int 0, .ref h0_0_8, .int 0, .int 0, .int 0, .int 0, .long 0, .int 0, .ref h0_0_15, .ref h0_0_16])), (h0_0_5, .inr (3, [.int 0, .int 50, .int 0, .int 0, .ref h0_0_5_4, .ref h0_0_5_5])), (h0_0_5_4, .inl (cI, 9, .inl (fun _ => 0))), (h0_0_5_5, .inl (cI, 9, .inl (fun _ => 0)))] := hD
  refine lv_iload_n hx hb dX11_offer_0 rfl (lv_at hl 1 rfl) ?_
  refine lv_sipush (v := (-1000)) hx hb dX11_offer_1 (by decide) ?_
  refine lv_sipush (v := 1000) hx hb dX11_offer_4 (by decide) ?_
  refine goS (As := [.int u1, .int (-1000), .int 1000]) (rest := []) (wr := [(h0, .inr (11, [.ref h0_0, .ref h0_1, .ref h0_2, .ref h0_3, .int 0, .int 0, .ref h0_6, .ref h0_7, .ref h0_8, .int 0, .ref h0_10, .ref h0_11, .int 0, .ref h0_13, .int 0, .int 0])), (h0_0, .inr (0, [.ref h0_0_0, .ref h0_0_1, .ref h0_0_2, .ref h0_0_3, .ref h0_0_4, .ref h0_0_5, .int 0, .int 0, .ref h0_0_8, .int 0, .int 0, .int 0, .int 0, .long 0, .int 0, .ref h0_0_15, .ref h0_0_16])), (h0_0_5, .inr (3, [.int 0, .int 50, .int 0, .int 0, .ref h0_0_5_4, .ref h0_0_5_5])), (h0_0_5_4, .inl (cI, 9, .inl (fun _ => 0))), (h0_0_5_5, .inl (cI, 9, .inl (fun _ => 0)))]) ⟨hx, hb, hml, hown, hts⟩ (c_X11_within l G cI cJ cZ cD cR cT u1 (-1000) 1000 u1.toInt (-1000) 1000 _ rfl (by decide) (by decide)) (va_cwS 3 hts gv_X11_offer_54_X11_within rfl rfl rfl (by decide +kernel) ⟨Nat.le_of_ble_eq_true rfl, Nat.le_of_ble_eq_true rfl⟩) hKK hP hD hS hA [] [0, 1, 2, 3, 4] rfl rfl (by decide +kernel) (by decide +kernel) (by decide +kernel) rfl hl.1 rfl (lv_room (Nat.le_of_ble_eq_true rfl)) dX11_offer_7 ⟨Nat.le_of_ble_eq_true rfl, Nat.le_of_ble_eq_true rfl⟩ (fun v2 q1 gq1 H locs hv2 => appW (ws' := [(h0, .inr (11, [.ref h0_0, .ref h0_1, .ref h0_2, .ref h0_3, .int 0, .int 0, .ref h0_6, .ref h0_7, .ref h0_8, .int 0, .ref h0_10, .ref h0_11, .int 0, .ref h0_13, .int 0, .int 0])), (h0_0, .inr (0, [.ref h0_0_0, .ref h0_0_1, .ref h0_0_2, .ref h0_0_3, .ref h0_0_4, .ref h0_0_5, .int 0, .int 0, .ref h0_0_8, .int 0, .int 0, .int 0, .int 0, .long 0, .int 0, .ref h0_0_15, .ref h0_0_16])), (h0_0_5, .inr (3, [.int 0, .int 50, .int 0, .int 0, .ref h0_0_5_4, .ref h0_0_5_5])), (h0_0_5_4, .inl (cI, 9, .inl (fun _ => 0))), (h0_0_5_5, .inl (cI, 9, .inl (fun _ => 0)))]) rfl (fun hP hD hS => ?_))
  obtain ⟨_, rfl, h4⟩ := hv2
  rcases h4 with ⟨rfl, h4⟩ | ⟨rfl, h4⟩
  · refine lv_if_eq (tgt := 26) hx hb dX11_offer_10 (by decide) (fun c => absurd c (by decide)) (fun _ => ?_)
    refine lv_iload_n hx hb dX11_offer_13 rfl (lv_at hl 2 rfl) ?_
    refine lv_sipush (v := (-1000)) hx hb dX11_offer_14 (by decide) ?_
    refine lv_sipush (v := 1000) hx hb dX11_offer_17 (by decide) ?_
    refine goS (As := [.int u2, .int (-1000), .int 1000]) (rest := []) (wr := [(h0, .inr (11, [.ref h0_0, .ref h0_1, .ref h0_2, .ref h0_3, .int 0, .int 0, .ref h0_6, .ref h0_7, .ref h0_8, .int 0, .ref h0_10, .ref h0_11, .int 0, .ref h0_13, .int 0, .int 0])), (h0_0, .inr (0, [.ref h0_0_0, .ref h0_0_1, .ref h0_0_2, .ref h0_0_3, .ref h0_0_4, .ref h0_0_5, .int 0, .int 0, .ref h0_0_8, .int 0, .int 0, .int 0, .int 0, .long 0, .int 0, .ref h0_0_15, .ref h0_0_16])), (h0_0_5, .inr (3, [.int 0, .int 50, .int 0, .int 0, .ref h0_0_5_4, .ref h0_0_5_5])), (h0_0_5_4, .inl (cI, 9, .inl (fun _ => 0))), (h0_0_5_5, .inl (cI, 9, .inl (fun _ => 0)))]) ⟨hx, hb, hml, hown, hts⟩ (c_X11_within l G cI cJ cZ cD cR cT u2 (-1000) 1000 u2.toInt (-1000) 1000 _ rfl (by decide) (by decide)) (va_cwS 3 hts gv_X11_offer_54_X11_within rfl rfl rfl (by decide +kernel) ⟨Nat.le_of_ble_eq_true rfl, Nat.le_of_ble_eq_true rfl⟩) hKK hP hD hS hA [] [0, 1, 2, 3, 4] rfl rfl (by decide +kernel) (by decide +kernel) (by decide +kernel) rfl hl.1 rfl (lv_room (Nat.le_of_ble_eq_true rfl)) dX11_offer_20 ⟨Nat.le_of_ble_eq_true rfl, Nat.le_of_ble_eq_true rfl⟩ (fun v6 q5 gq5 H locs hv6 => appW (ws' := [(h0, .inr (11, [.ref h0_0, .ref h0_1, .ref h0_2, .ref h0_3, .int 0, .int 0, .ref h0_6, .ref h0_7, .ref h0_8, .int 0, .ref h0_10, .ref h0_11, .int 0, .ref h0_13, .int 0, .int 0])), (h0_0, .inr (0, [.ref h0_0_0, .ref h0_0_1, .ref h0_0_2, .ref h0_0_3, .ref h0_0_4, .ref h0_0_5, .int 0, .int 0, .ref h0_0_8, .int 0, .int 0, .int 0, .int 0, .long 0, .int 0, .ref h0_0_15, .ref h0_0_16])), (h0_0_5, .inr (3, [.int 0, .int 50, .int 0, .int 0, .ref h0_0_5_4, .ref h0_0_5_5])), (h0_0_5_4, .inl (cI, 9, .inl (fun _ => 0))), (h0_0_5_5, .inl (cI, 9, .inl (fun _ => 0)))]) rfl (fun hP hD hS => ?_))
    obtain ⟨_, rfl, h8⟩ := hv6
    rcases h8 with ⟨rfl, h8⟩ | ⟨rfl, h8⟩
    · refine lv_if_ne (tgt := 32) hx hb dX11_offer_23 (by decide) (fun _ => ?_) (fun c => absurd c (by decide))
      refine lv_aload_n hx hb dX11_offer_32 rfl (lv_at hl 0 rfl) ?_
      refine va_get (D := G) (ci := 11) (v := .ref h0_0) (C := RX11) (T := TX11) (N := 16) hx hb hts cm_X11_offer_1 hown hK hP 0 rfl rfl 0 (by decide) (hts _ (dmem (j := 3) rfl)) (fun _ h9 => h9) rfl dX11_offer_33 ?_
      refine va_get (D := G) (ci := 0) (v := .ref h0_0_5) (C := RX0) (T := TX0) (N := 17) hx hb hts cm_X11_offer_2 hown hK hP 1 rfl rfl 5 (by decide) (hts _ (dmem (j := 4) rfl)) (fun _ h9 => h9) rfl dX11_offer_36 ?_
      refine va_get (D := G) (ci := 3) (v := .int 0) (C := RX3) (T := TX3) (N := 6) hx hb hts cm_X11_offer_3 hown hK hP 2 rfl rfl 3 (by decide) (hts _ (dmem (j := 5) rfl)) (fun _ h9 => h9) rfl dX11_offer_39 ?_
      refine lv_bipush (v := 9) hx hb dX11_offer_42 (by decide) ?_
      refine lv_icmp_lt (tgt := 54) hx hb dX11_offer_44 (by decide) (fun _ => ?_) (fun c => absurd c (by decide))
      refine lv_aload_n hx hb dX11_offer_54 rfl (lv_at hl 0 rfl) ?_
      refine lv_aload_n hx hb dX11_offer_55 rfl (lv_at hl 0 rfl) ?_
      refine va_get (D := G) (ci := 11) (v := .ref h0_0) (C := RX11) (T := TX11) (N := 16) hx hb hts cm_X11_offer_1 hown hK hP 0 rfl rfl 0 (by decide) (hts _ (dmem (j := 3) rfl)) (fun _ h9 => h9) rfl dX11_offer_56 ?_
      refine va_get (D := G) (ci := 0) (v := .ref h0_0_5) (C := RX0) (T := TX0) (N := 17) hx hb hts cm_X11_offer_2 hown hK hP 1 rfl rfl 5 (by decide) (hts _ (dmem (j := 4) rfl)) (fun _ h9 => h9) rfl dX11_offer_59 ?_
      refine lv_iload_n hx hb dX11_offer_62 rfl (lv_at hl 1 rfl) ?_
      refine lv_iload_n hx hb dX11_offer_63 rfl (lv_at hl 2 rfl) ?_
      refine goV (As := [.int u1, .int u2]) (rest := [.ref h0]) (wr := [(h0, .inr (11, [.ref h0_0, .ref h0_1, .ref h0_2, .ref h0_3, .int 0, .int 0, .ref h0_6, .ref h0_7, .ref h0_8, .int 0, .ref h0_10, .ref h0_11, .int 0, .ref h0_13, .int 0, .int 0])), (h0_0, .inr (0, [.ref h0_0_0, .ref h0_0_1, .ref h0_0_2, .ref h0_0_3, .ref h0_0_4, .ref h0_0_5, .int 0, .int 0, .ref h0_0_8, .int 0, .int 0, .int 0, .int 0, .long 0, .int 0, .ref h0_0_15, .ref h0_0_16]))]) ⟨hx, hb, hml, hown, hts⟩ (c_X3_addOffer l G cI cJ cZ cD cR cT h0_0_5 u1 u2 h0_0_5_4 h0_0_5_5 _) (cwV 2 hts gv_X11_offer_300_X3_addOffer rfl rfl rfl (by decide +kernel) ⟨Nat.le_of_ble_eq_true rfl, Nat.le_of_ble_eq_true rfl⟩) 2 rfl rfl rfl hKK hP hD hS hA [2, 3, 4] [0, 1] rfl rfl (by decide +kernel) (by decide +kernel) (by decide +kernel) rfl hl.1 rfl (lv_room (Nat.le_of_ble_eq_true rfl)) dX11_offer_64 ⟨Nat.le_of_ble_eq_true rfl, Nat.le_of_ble_eq_true rfl⟩ (fun v10 q9 gq9 H locs hv10 => appW (ws' := [(h0, .inr (11, [.ref h0_0, .ref h0_1, .ref h0_2, .ref h0_3, .int 0, .int 0, .ref h0_6, .ref h0_7, .ref h0_8, .int 0, .ref h0_10, .ref h0_11, .int 0, .ref h0_13, .int 0, .int 0])), (h0_0, .inr (0, [.ref h0_0_0, .ref h0_0_1, .ref h0_0_2, .ref h0_0_3, .ref h0_0_4, .ref h0_0_5, .int 0, .int 0, .ref h0_0_8, .int 0, .int 0, .int 0, .int 0, .long 0, .int 0, .ref h0_0_15, .ref h0_0_16]))]) rfl (fun hP hD hS => ?_))
      obtain ⟨_, rfl, rfl⟩ := hv10
      refine goV (As := [.int 1]) (rest := []) (wr := [(h0_0, .inr (0, [.ref h0_0_0, .ref h0_0_1, .ref h0_0_2, .ref h0_0_3, .ref h0_0_4, .ref h0_0_5, .int 0, .int 0, .ref h0_0_8, .int 0, .int 0, .int 0, .int 0, .long 0, .int 0, .ref h0_0_15, .ref h0_0_16]))]) ⟨hx, hb, hml, hown, hts⟩ (c_X11_accept l G cI cJ cZ cD cR cT h0 1 h0_0 h0_1 h0_2 h0_3 0 0 h0_6 h0_7 h0_8 0 h0_10 h0_11 0 h0_13 0 0 _) (cwV 1 hts gv_X11_offer_77_X11_accept rfl rfl rfl (by decide +kernel) ⟨Nat.le_of_ble_eq_true rfl, Nat.le_of_ble_eq_true rfl⟩) 0 rfl rfl rfl hKK hP hD hS hA [0] [1] rfl rfl (by decide +kernel) (by decide +kernel) (by decide +kernel) rfl hl.1 rfl (lv_room (Nat.le_of_ble_eq_true rfl)) dX11_offer_67 ⟨Nat.le_of_ble_eq_true rfl, Nat.le_of_ble_eq_true rfl⟩ (fun v13 q12 gq12 H locs hv13 => appW (ws' := [(h0_0, .inr (0, [.ref h0_0_0, .ref h0_0_1, .ref h0_0_2, .ref h0_0_3, .ref h0_0_4, .ref h0_0_5, .int 0, .int 0, .ref h0_0_8, .int 0, .int 0, .int 0, .int 0, .long 0, .int 0, .ref h0_0_15, .ref h0_0_16])), (h0, .inr (11, [.ref h0_0, .ref h0_1, .ref h0_2, .ref h0_3, .int 0, .int 0, .ref h0_6, .ref h0_7, .ref h0_8, .int 0, .ref h0_10, .ref h0_11, .int 0, .ref h0_13, .int 0, .int 0]))]) rfl (fun hP hD hS => ?_))
      obtain ⟨_, rfl, rfl⟩ := hv13
      exact retI hx hb hr hlocks ⟨_, rfl, by have hz0 : (0 : Int32).toInt = 0 := rfl; have hz1 : (1 : Int32).toInt = 1 := rfl; unfold F_offer; (repeat' split) <;> first | rfl | (exfalso; omega)⟩ hP hD hS (fun _ => 0) (fun _ _ => 0) [] (by decide +kernel) rfl dX11_offer_70
    · refine lv_if_ne (tgt := 32) hx hb dX11_offer_23 (by decide) (fun c => absurd c (by decide)) (fun _ => ?_)
      refine lv_aload_n hx hb dX11_offer_26 rfl (lv_at hl 0 rfl) ?_
      refine lv_iconst (v := (-1)) hx hb dX11_offer_27 (by decide) ?_
      refine goV (As := [.int (-1)]) (rest := []) (wr := [(h0_0, .inr (0, [.ref h0_0_0, .ref h0_0_1, .ref h0_0_2, .ref h0_0_3, .ref h0_0_4, .ref h0_0_5, .int 0, .int 0, .ref h0_0_8, .int 0, .int 0, .int 0, .int 0, .long 0, .int 0, .ref h0_0_15, .ref h0_0_16])), (h0_0_5, .inr (3, [.int 0, .int 50, .int 0, .int 0, .ref h0_0_5_4, .ref h0_0_5_5])), (h0_0_5_4, .inl (cI, 9, .inl (fun _ => 0))), (h0_0_5_5, .inl (cI, 9, .inl (fun _ => 0)))]) ⟨hx, hb, hml, hown, hts⟩ (c_X11_refuse l G cI cJ cZ cD cR cT h0 (-1) h0_0 h0_1 h0_2 h0_3 0 0 h0_6 h0_7 h0_8 0 h0_10 h0_11 0 h0_13 0 0 _) (cwV 1 hts gv_X11_offer_59_X11_refuse rfl rfl rfl (by decide +kernel) ⟨Nat.le_of_ble_eq_true rfl, Nat.le_of_ble_eq_true rfl⟩) 0 rfl rfl rfl hKK hP hD hS hA [0] [1, 2, 3, 4] rfl rfl (by decide +kernel) (by decide +kernel) (by decide +kernel) rfl hl.1 rfl (lv_room (Nat.le_of_ble_eq_true rfl)) dX11_offer_28 ⟨Nat.le_of_ble_eq_true rfl, Nat.le_of_ble_eq_true rfl⟩ (fun v16 q15 gq15 H locs hv16 => appW (ws' := [(h0_0, .inr (0, [.ref h0_0_0, .ref h0_0_1, .ref h0_0_2, .ref h0_0_3, .ref h0_0_4, .ref h0_0_5, .int 0, .int 0, .ref h0_0_8, .int 0, .int 0, .int 0, .int 0, .long 0, .int 0, .ref h0_0_15, .ref h0_0_16])), (h0_0_5, .inr (3, [.int 0, .int 50, .int 0, .int 0, .ref h0_0_5_4, .ref h0_0_5_5])), (h0_0_5_4, .inl (cI, 9, .inl (fun _ => 0))), (h0_0_5_5, .inl (cI, 9, .inl (fun _ => 0))), (h0, .inr (11, [.ref h0_0, .ref h0_1, .ref h0_2, .ref h0_3, .int 0, .int 0, .ref h0_6, .ref h0_7, .ref h0_8, .int 0, .ref h0_10, .ref h0_11, .int 0, .ref h0_13, .int 0, .int (-1)]))]) rfl (fun hP hD hS => ?_))
      obtain ⟨_, rfl, rfl⟩ := hv16
      exact retI hx hb hr hlocks ⟨_, rfl, by have hz0 : (0 : Int32).toInt = 0 := rfl; have hz1 : (1 : Int32).toInt = 1 := rfl; unfold F_offer; (repeat' split) <;> first | rfl | (exfalso; omega)⟩ hP hD hS (fun _ => 0) (fun _ _ => 0) [] (by decide +kernel) rfl dX11_offer_31
  · refine lv_if_eq (tgt := 26) hx hb dX11_offer_10 (by decide) (fun _ => ?_) (fun c => absurd c (by decide))
    refine lv_aload_n hx hb dX11_offer_26 rfl (lv_at hl 0 rfl) ?_
    refine lv_iconst (v := (-1)) hx hb dX11_offer_27 (by decide) ?_
    refine goV (As := [.int (-1)]) (rest := []) (wr := [(h0_0, .inr (0, [.ref h0_0_0, .ref h0_0_1, .ref h0_0_2, .ref h0_0_3, .ref h0_0_4, .ref h0_0_5, .int 0, .int 0, .ref h0_0_8, .int 0, .int 0, .int 0, .int 0, .long 0, .int 0, .ref h0_0_15, .ref h0_0_16])), (h0_0_5, .inr (3, [.int 0, .int 50, .int 0, .int 0, .ref h0_0_5_4, .ref h0_0_5_5])), (h0_0_5_4, .inl (cI, 9, .inl (fun _ => 0))), (h0_0_5_5, .inl (cI, 9, .inl (fun _ => 0)))]) ⟨hx, hb, hml, hown, hts⟩ (c_X11_refuse l G cI cJ cZ cD cR cT h0 (-1) h0_0 h0_1 h0_2 h0_3 0 0 h0_6 h0_7 h0_8 0 h0_10 h0_11 0 h0_13 0 0 _) (cwV 1 hts gv_X11_offer_59_X11_refuse rfl rfl rfl (by decide +kernel) ⟨Nat.le_of_ble_eq_true rfl, Nat.le_of_ble_eq_true rfl⟩) 0 rfl rfl rfl hKK hP hD hS hA [0] [1, 2, 3, 4] rfl rfl (by decide +kernel) (by decide +kernel) (by decide +kernel) rfl hl.1 rfl (lv_room (Nat.le_of_ble_eq_true rfl)) dX11_offer_28 ⟨Nat.le_of_ble_eq_true rfl, Nat.le_of_ble_eq_true rfl⟩ (fun v19 q18 gq18 H locs hv19 => appW (ws' := [(h0_0, .inr (0, [.ref h0_0_0, .ref h0_0_1, .ref h0_0_2, .ref h0_0_3, .ref h0_0_4, .ref h0_0_5, .int 0, .int 0, .ref h0_0_8, .int 0, .int 0, .int 0, .int 0, .long 0, .int 0, .ref h0_0_15, .ref h0_0_16])), (h0_0_5, .inr (3, [.int 0, .int 50, .int 0, .int 0, .ref h0_0_5_4, .ref h0_0_5_5])), (h0_0_5_4, .inl (cI, 9, .inl (fun _ => 0))), (h0_0_5_5, .inl (cI, 9, .inl (fun _ => 0))), (h0, .inr (11, [.ref h0_0, .ref h0_1, .ref h0_2, .ref h0_3, .int 0, .int 0, .ref h0_6, .ref h0_7, .ref h0_8, .int 0, .ref h0_10, .ref h0_11, .int 0, .ref h0_13, .int 0, .int (-1)]))]) rfl (fun hP hD hS => ?_))
    obtain ⟨_, rfl, rfl⟩ := hv19
    exact retI hx hb hr hlocks ⟨_, rfl, by have hz0 : (0 : Int32).toInt = 0 := rfl; have hz1 : (1 : Int32).toInt = 1 := rfl; unfold F_offer; (repeat' split) <;> first | rfl | (exfalso; omega)⟩ hP hD hS (fun _ => 0) (fun _ _ => 0) [] (by decide +kernel) rfl dX11_offer_31
def d_X11_agree : List Cond := [Cond.methodLink RX11 54 yX11_within, Cond.static yX11_within, Cond.initialized RX11, Cond.fieldLink RX11 12 "NoRent" "county" "LNoRent$County;", Cond.fieldLink RX11 98 "NoRent$County" "league" "LNoRent$League;", Cond.methodLink RX11 303 yX3_bestSet, Cond.instanceMethod yX3_bestSet, Cond.selects RX3 yX3_bestSet yX3_bestSet, Cond.initialized RX3]
def v_X11_agree : List Cond := Cond.code yX11_agree cX11_agree 3 (some .int) :: (d_X11_agree ++ (v_X11_within ++ (wsX110 ++ (wsX00 ++ (v_X3_bestSet ++ ([] : List Cond))))))
theorem cm_X11_agree_0 : ∀ w ∈ v_X11_within, w ∈ v_X11_agree := fun _ h => List.mem_cons_of_mem _ (List.mem_append_right _ (List.mem_append_left _ h))
theorem cm_X11_agree_1 : ∀ w ∈ wsX110, w ∈ v_X11_agree := fun _ h => List.mem_cons_of_mem _ (List.mem_append_right _ (List.mem_append_right _ (List.mem_append_left _ h)))
theorem cm_X11_agree_2 : ∀ w ∈ wsX00, w ∈ v_X11_agree := fun _ h => List.mem_cons_of_mem _ (List.mem_append_right _ (List.mem_append_right _ (List.mem_append_right _ (List.mem_append_left _ h))))
theorem cm_X11_agree_3 : ∀ w ∈ v_X3_bestSet, w ∈ v_X11_agree := fun _ h => List.mem_cons_of_mem _ (List.mem_append_right _ (List.mem_append_right _ (List.mem_append_right _ (List.mem_append_right _ (List.mem_append_left _ h)))))
theorem gd_X11_agree : Gd v_X11_agree := gd_mk (by decide +kernel) (gd_app gd_X11_within (gd_app gd_X11 (gd_app gd_X0 (gd_app gd_X3_bestSet gd_nil))))
set_option maxRecDepth 20000 in
theorem gv_X11_agree_54_X11_within : GoodIn v_X11_agree (va_wsS RX11 54 yX11_within v_X11_within) := goodIn_app (goodIn_of _ (by decide +kernel)) (gi cm_X11_agree_0 gd_X11_within)
set_option maxRecDepth 20000 in
theorem gv_X11_agree_303_X3_bestSet : GoodIn v_X11_agree (wsV RX11 303 RX3 yX3_bestSet v_X3_bestSet) := goodIn_app (goodIn_of _ (by decide +kernel)) (gi cm_X11_agree_3 gd_X3_bestSet)
set_option maxHeartbeats 4000000 in
set_option maxRecDepth 100000 in
theorem c_X11_agree (l : Launch) (G : va_G) (cI cJ cZ cD cR cT : ClassId) (h0 : Nat) (u1 : Int32) (u2 : Int32) (h0_0 : Nat) (h0_1 : Nat) (h0_2 : Nat) (h0_3 : Nat) (h0_6 : Nat) (h0_7 : Nat) (h0_8 : Nat) (h0_10 : Nat) (h0_11 : Nat) (h0_13 : Nat) (h0_0_0 : Nat) (h0_0_1 : Nat) (h0_0_2 : Nat) (h0_0_3 : Nat) (h0_0_4 : Nat) (h0_0_5 : Nat) (h0_0_8 : Nat) (h0_0_15 : Nat) (h0_0_16 : Nat) (h0_0_5_4 : Nat) (h0_0_5_5 : Nat) (sz : Nat) : Met l yX11_agree v_X11_agree ({ frames := 3, cells := 0, slots := 0, locals := 92 }) (va_Pc [.ref h0, .int u1, .int u2] (PreW G (tys6 cI cJ cZ cD cR cT) [(h0, .inr (11, [.ref h0_0, .ref h0_1, .ref h0_2, .ref h0_3, .int 0, .int 0, .ref h0_6, .ref h0_7, .ref h0_8, .int 0, .ref h0_10, .ref h0_11, .int 0, .ref h0_13, .int 0, .int 0])), (h0_0, .inr (0, [.ref h0_0_0, .ref h0_0_1, .ref h0_0_2, .ref h0_0_3, .ref h0_0_4, .ref h0_0_5, .int 0, .int 0, .ref h0_0_8, .int 0, .int 0, .int 0, .int 0, .long 0, .int 0, .ref h0_0_15, .ref h0_0_16])), (h0_0_5, .inr (3, [.int 0, .int 50, .int 0, .int 0, .ref h0_0_5_4, .ref h0_0_5_5]))] sz)) (QW (RI (fun r => r = F_agree u1 u2)) G (va_A [(h0, .inr (11, [.ref h0_0, .ref h0_1, .ref h0_2, .ref h0_3, .int 0, .int 0, .ref h0_6, .ref h0_7, .ref h0_8, .int 0, .ref h0_10, .ref h0_11, .int 0, .ref h0_13, .int 0, .int 0])), (h0_0, .inr (0, [.ref h0_0_0, .ref h0_0_1, .ref h0_0_2, .ref h0_0_3, .ref h0_0_4, .ref h0_0_5, .int 0, .int 0, .ref h0_0_8, .int 0, .int 0, .int 0, .int 0, .long 0, .int 0, .ref h0_0_15, .ref h0_0_16])), (h0_0_5, .inr (3, [.int 0, .int 50, .int 0, .int 0, .ref h0_0_5_4, .ref h0_0_5_5]))] sz) (fun q g => [])) 0 0 (va_A [(h0, .inr (11, [.ref h0_0, .ref h0_1, .ref h0_2, .ref h0_3, .int 0, .int 0, .ref h0_6, .ref h0_7, .ref h0_8, .int 0, .ref h0_10, .ref h0_11, .int 0, .ref h0_13, .int 0, .int 0])), (h0_0, .inr (0, [.ref h0_0_0, .ref h0_0_1, .ref h0_0_2, .ref h0_0_3, .ref h0_0_4, .ref h0_0_5, .int 0, .int 0, .ref h0_0_8, .int 0, .int 0, .int 0, .int 0, .long 0, .int 0, .ref h0_0_15, .ref h0_0_16])), (h0_0_5, .inr (3, [.int 0, .int 50, .int 0, .int 0, .ref h0_0_5_4, .ref h0_0_5_5]))] sz) := by
  refine metW (cc := cX11_agree) (maxL := 3) (ret := (some .int)) (by decide) rfl (Nat.le_of_ble_eq_true rfl) ?_
  intro p e s m below meth c A ls hx hb hr hml hown hts hlocks hin hKK hP hD hA hS hl
  have hK := hKK.1
  have hown : s.vm.findClass RX11 = some m.cls := hown
  have hl : lv_has ls 3 [(0, .ref h0), (1, .int u1), (2, .int u2)] := hl
  have hP : va_P G vwCl [(h0, .inr (11, [.ref h0_0, .ref h0_1, .ref h0_2, .ref h0_3, .int 0, .int 0, .ref h0_6, .ref h0_7, .ref h0_8, .int 0, .ref h0_10, .ref h0_11, .int 0, .ref h0_13, .int 0, .int 0])), (h0_0, .inr (0, [.ref h0_0_0, .ref h0_0_1, .ref h0_0_2, .ref h0_0_3, .ref h0_0_4, .ref h0_0_5, .int 0, .int 0, .ref h0_0_8, .int 0, .int 0, .int 0, .int 0, .long 0, .int 0, .ref h0_0_15, .ref h0_0_16])), (h0_0_5, .inr (3, [.int 0, .int 50, .int 0, .int 0, .ref h0_0_5_4, .ref h0_0_5_5]))] s.heap := hP
  have hD : va_D A [(h0, .inr (11, [.ref h0_0, .ref h0_1, .ref h0_2, .ref h0_3, .int 0, .int 0, .ref h0_6, .ref h0_7, .ref h0_8, .int 0, .ref h0_10, .ref h0_11, .int 0, .ref h0_13, .int 0, .int 0])), (h0_0, .inr (0, [.ref h0_0_0, .ref h0_0_1, .ref h0_0_2, .ref h0_0_3, .ref h0_0_4, .ref h0_0_5, .int 0, .int 0, .ref h0_0_8, .int 0, .int 0, .int 0, .int 0, .long 0, .int 0, .ref h0_0_15, .ref h0_0_16])), (h0_0_5, .inr (3, [.int 0, .int 50, .int 0, .int 0, .ref h0_0_5_4, .ref h0_0_5_5]))] := hD
  refine lv_iload_n hx hb dX11_agree_0 rfl (lv_at hl 1 rfl) ?_
  refine lv_sipush (v := (-10000)) hx hb dX11_agree_1 (by decide) ?_
  refine lv_sipush (v := 10000) hx hb dX11_agree_4 (by decide) ?_
  refine goS (As := [.int u1, .int (-10000), .int 10000]) (rest := []) (wr := [(h0, .inr (11, [.ref h0_0, .ref h0_1, .ref h0_2, .ref h0_3, .int 0, .int 0, .ref h0_6, .ref h0_7, .ref h0_8, .int 0, .ref h0_10, .ref h0_11, .int 0, .ref h0_13, .int 0, .int 0])), (h0_0, .inr (0, [.ref h0_0_0, .ref h0_0_1, .ref h0_0_2, .ref h0_0_3, .ref h0_0_4, .ref h0_0_5, .int 0, .int 0, .ref h0_0_8, .int 0, .int 0, .int 0, .int 0, .long 0, .int 0, .ref h0_0_15, .ref h0_0_16])), (h0_0_5, .inr (3, [.int 0, .int 50, .int 0, .int 0, .ref h0_0_5_4, .ref h0_0_5_5]))]) ⟨hx, hb, hml, hown, hts⟩ (c_X11_within l G cI cJ cZ cD cR cT u1 (-10000) 10000 u1.toInt (-10000) 10000 _ rfl (by decide) (by decide)) (va_cwS 3 hts gv_X11_agree_54_X11_within rfl rfl rfl (by decide +kernel) ⟨Nat.le_of_ble_eq_true rfl, Nat.le_of_ble_eq_true rfl⟩) hKK hP hD hS hA [] [0, 1, 2] rfl rfl (by decide +kernel) (by decide +kernel) (by decide +kernel) rfl hl.1 rfl (lv_room (Nat.le_of_ble_eq_true rfl)) dX11_agree_7 ⟨Nat.le_of_ble_eq_true rfl, Nat.le_of_ble_eq_true rfl⟩ (fun v2 q1 gq1 H locs hv2 => appW (ws' := [(h0, .inr (11, [.ref h0_0, .ref h0_1, .ref h0_2, .ref h0_3, .int 0, .int 0, .ref h0_6, .ref h0_7, .ref h0_8, .int 0, .ref h0_10, .ref h0_11, .int 0, .ref h0_13, .int 0, .int 0])), (h0_0, .inr (0, [.ref h0_0_0, .ref h0_0_1, .ref h0_0_2, .ref h0_0_3, .ref h0_0_4, .ref h0_0_5, .int 0, .int 0, .ref h0_0_8, .int 0, .int 0, .int 0, .int 0, .long 0, .int 0, .ref h0_0_15, .ref h0_0_16])), (h0_0_5, .inr (3, [.int 0, .int 50, .int 0, .int 0, .ref h0_0_5_4, .ref h0_0_5_5]))]) rfl (fun hP hD hS => ?_))
  obtain ⟨_, rfl, h4⟩ := hv2
  rcases h4 with ⟨rfl, h4⟩ | ⟨rfl, h4⟩
  · refine lv_if_eq (tgt := 26) hx hb dX11_agree_10 (by decide) (fun c => absurd c (by decide)) (fun _ => ?_)
    refine lv_iload_n hx hb dX11_agree_13 rfl (lv_at hl 2 rfl) ?_
    refine lv_sipush (v := (-10000)) hx hb dX11_agree_14 (by decide) ?_
    refine lv_sipush (v := 10000) hx hb dX11_agree_17 (by decide) ?_
    refine goS (As := [.int u2, .int (-10000), .int 10000]) (rest := []) (wr := [(h0, .inr (11, [.ref h0_0, .ref h0_1, .ref h0_2, .ref h0_3, .int 0, .int 0, .ref h0_6, .ref h0_7, .ref h0_8, .int 0, .ref h0_10, .ref h0_11, .int 0, .ref h0_13, .int 0, .int 0])), (h0_0, .inr (0, [.ref h0_0_0, .ref h0_0_1, .ref h0_0_2, .ref h0_0_3, .ref h0_0_4, .ref h0_0_5, .int 0, .int 0, .ref h0_0_8, .int 0, .int 0, .int 0, .int 0, .long 0, .int 0, .ref h0_0_15, .ref h0_0_16])), (h0_0_5, .inr (3, [.int 0, .int 50, .int 0, .int 0, .ref h0_0_5_4, .ref h0_0_5_5]))]) ⟨hx, hb, hml, hown, hts⟩ (c_X11_within l G cI cJ cZ cD cR cT u2 (-10000) 10000 u2.toInt (-10000) 10000 _ rfl (by decide) (by decide)) (va_cwS 3 hts gv_X11_agree_54_X11_within rfl rfl rfl (by decide +kernel) ⟨Nat.le_of_ble_eq_true rfl, Nat.le_of_ble_eq_true rfl⟩) hKK hP hD hS hA [] [0, 1, 2] rfl rfl (by decide +kernel) (by decide +kernel) (by decide +kernel) rfl hl.1 rfl (lv_room (Nat.le_of_ble_eq_true rfl)) dX11_agree_20 ⟨Nat.le_of_ble_eq_true rfl, Nat.le_of_ble_eq_true rfl⟩ (fun v6 q5 gq5 H locs hv6 => appW (ws' := [(h0, .inr (11, [.ref h0_0, .ref h0_1, .ref h0_2, .ref h0_3, .int 0, .int 0, .ref h0_6, .ref h0_7, .ref h0_8, .int 0, .ref h0_10, .ref h0_11, .int 0, .ref h0_13, .int 0, .int 0])), (h0_0, .inr (0, [.ref h0_0_0, .ref h0_0_1, .ref h0_0_2, .ref h0_0_3, .ref h0_0_4, .ref h0_0_5, .int 0, .int 0, .ref h0_0_8, .int 0, .int 0, .int 0, .int 0, .long 0, .int 0, .ref h0_0_15, .ref h0_0_16])), (h0_0_5, .inr (3, [.int 0, .int 50, .int 0, .int 0, .ref h0_0_5_4, .ref h0_0_5_5]))]) rfl (fun hP hD hS => ?_))
    obtain ⟨_, rfl, h8⟩ := hv6
    rcases h8 with ⟨rfl, h8⟩ | ⟨rfl, h8⟩
    · refine lv_if_ne (tgt := 28) hx hb dX11_agree_23 (by decide) (fun _ => ?_) (fun c => absurd c (by decide))
      refine lv_aload_n hx hb dX11_agree_28 rfl (lv_at hl 0 rfl) ?_
      refine va_get (D := G) (ci := 11) (v := .ref h0_0) (C := RX11) (T := TX11) (N := 16) hx hb hts cm_X11_agree_1 hown hK hP 0 rfl rfl 0 (by decide) (hts _ (dmem (j := 3) rfl)) (fun _ h9 => h9) rfl dX11_agree_29 ?_
      refine va_get (D := G) (ci := 0) (v := .ref h0_0_5) (C := RX0) (T := TX0) (N := 17) hx hb hts cm_X11_agree_2 hown hK hP 1 rfl rfl 5 (by decide) (hts _ (dmem (j := 4) rfl)) (fun _ h9 => h9) rfl dX11_agree_32 ?_
      refine lv_iload_n hx hb dX11_agree_35 rfl (lv_at hl 1 rfl) ?_
      refine lv_iload_n hx hb dX11_agree_36 rfl (lv_at hl 2 rfl) ?_
      refine goV (As := [.int u1, .int u2]) (rest := []) (wr := [(h0, .inr (11, [.ref h0_0, .ref h0_1, .ref h0_2, .ref h0_3, .int 0, .int 0, .ref h0_6, .ref h0_7, .ref h0_8, .int 0, .ref h0_10, .ref h0_11, .int 0, .ref h0_13, .int 0, .int 0])), (h0_0, .inr (0, [.ref h0_0_0, .ref h0_0_1, .ref h0_0_2, .ref h0_0_3, .ref h0_0_4, .ref h0_0_5, .int 0, .int 0, .ref h0_0_8, .int 0, .int 0, .int 0, .int 0, .long 0, .int 0, .ref h0_0_15, .ref h0_0_16]))]) ⟨hx, hb, hml, hown, hts⟩ (c_X3_bestSet l G cI cJ cZ cD cR cT h0_0_5 u1 u2 h0_0_5_4 h0_0_5_5 _) (cwV 2 hts gv_X11_agree_303_X3_bestSet rfl rfl rfl (by decide +kernel) ⟨Nat.le_of_ble_eq_true rfl, Nat.le_of_ble_eq_true rfl⟩) 2 rfl rfl rfl hKK hP hD hS hA [2] [0, 1] rfl rfl (by decide +kernel) (by decide +kernel) (by decide +kernel) rfl hl.1 rfl (lv_room (Nat.le_of_ble_eq_true rfl)) dX11_agree_37 ⟨Nat.le_of_ble_eq_true rfl, Nat.le_of_ble_eq_true rfl⟩ (fun v10 q9 gq9 H locs hv10 => appW (ws' := [(h0, .inr (11, [.ref h0_0, .ref h0_1, .ref h0_2, .ref h0_3, .int 0, .int 0, .ref h0_6, .ref h0_7, .ref h0_8, .int 0, .ref h0_10, .ref h0_11, .int 0, .ref h0_13, .int 0, .int 0])), (h0_0, .inr (0, [.ref h0_0_0, .ref h0_0_1, .ref h0_0_2, .ref h0_0_3, .ref h0_0_4, .ref h0_0_5, .int 0, .int 0, .ref h0_0_8, .int 0, .int 0, .int 0, .int 0, .long 0, .int 0, .ref h0_0_15, .ref h0_0_16]))]) rfl (fun hP hD hS => ?_))
      obtain ⟨_, rfl, h12⟩ := hv10
      rcases h12 with ⟨rfl, h12⟩ | ⟨rfl, h12⟩
      · exact retI hx hb hr hlocks ⟨_, rfl, by have hz0 : (0 : Int32).toInt = 0 := rfl; have hz1 : (1 : Int32).toInt = 1 := rfl; unfold F_agree; (repeat' split) <;> first | rfl | (exfalso; omega)⟩ hP hD hS (fun _ => 0) (fun _ _ => 0) [] (by decide +kernel) rfl dX11_agree_40
      · exact retI hx hb hr hlocks ⟨_, rfl, by have hz0 : (0 : Int32).toInt = 0 := rfl; have hz1 : (1 : Int32).toInt = 1 := rfl; unfold F_agree; (repeat' split) <;> first | rfl | (exfalso; omega)⟩ hP hD hS (fun _ => 0) (fun _ _ => 0) [] (by decide +kernel) rfl dX11_agree_40
    · refine lv_if_ne (tgt := 28) hx hb dX11_agree_23 (by decide) (fun c => absurd c (by decide)) (fun _ => ?_)
      refine lv_iconst (v := (-1)) hx hb dX11_agree_26 (by decide) ?_
      exact retI hx hb hr hlocks ⟨_, rfl, by have hz0 : (0 : Int32).toInt = 0 := rfl; have hz1 : (1 : Int32).toInt = 1 := rfl; unfold F_agree; (repeat' split) <;> first | rfl | (exfalso; omega)⟩ hP hD hS (fun _ => 0) (fun _ _ => 0) [] (by decide +kernel) rfl dX11_agree_27
  · refine lv_if_eq (tgt := 26) hx hb dX11_agree_10 (by decide) (fun _ => ?_) (fun c => absurd c (by decide))
    refine lv_iconst (v := (-1)) hx hb dX11_agree_26 (by decide) ?_
    exact retI hx hb hr hlocks ⟨_, rfl, by have hz0 : (0 : Int32).toInt = 0 := rfl; have hz1 : (1 : Int32).toInt = 1 := rfl; unfold F_agree; (repeat' split) <;> first | rfl | (exfalso; omega)⟩ hP hD hS (fun _ => 0) (fun _ _ => 0) [] (by decide +kernel) rfl dX11_agree_27
def d_X11_wish : List Cond := [Cond.fieldLink RX11 12 "NoRent" "county" "LNoRent$County;", Cond.fieldLink RX11 114 "NoRent$County" "land" "LNoRent$Land;", Cond.methodLink RX11 150 yX1_has, Cond.instanceMethod yX1_has, Cond.selects RX1 yX1_has yX1_has, Cond.initialized RX1, Cond.methodLink RX11 59 yX11_refuse, Cond.instanceMethod yX11_refuse, Cond.selects RX11 yX11_refuse yX11_refuse, Cond.initialized RX11]
def v_X11_wish : List Cond := Cond.code yX11_wish cX11_wish 2 (some .int) :: (d_X11_wish ++ (wsX110 ++ (wsX00 ++ (v_X1_has ++ (v_X11_refuse ++ ([] : List Cond))))))
theorem cm_X11_wish_0 : ∀ w ∈ wsX110, w ∈ v_X11_wish := fun _ h => List.mem_cons_of_mem _ (List.mem_append_right _ (List.mem_append_left _ h))
theorem cm_X11_wish_1 : ∀ w ∈ wsX00, w ∈ v_X11_wish := fun _ h => List.mem_cons_of_mem _ (List.mem_append_right _ (List.mem_append_right _ (List.mem_append_left _ h)))
theorem cm_X11_wish_2 : ∀ w ∈ v_X1_has, w ∈ v_X11_wish := fun _ h => List.mem_cons_of_mem _ (List.mem_append_right _ (List.mem_append_right _ (List.mem_append_right _ (List.mem_append_left _ h))))
theorem cm_X11_wish_3 : ∀ w ∈ v_X11_refuse, w ∈ v_X11_wish := fun _ h => List.mem_cons_of_mem _ (List.mem_append_right _ (List.mem_append_right _ (List.mem_append_right _ (List.mem_append_right _ (List.mem_append_left _ h)))))
theorem gd_X11_wish : Gd v_X11_wish := gd_mk (by decide +kernel) (gd_app gd_X11 (gd_app gd_X0 (gd_app gd_X1_has (gd_app gd_X11_refuse gd_nil))))
set_option maxRecDepth 20000 in
theorem gv_X11_wish_150_X1_has : GoodIn v_X11_wish (wsV RX11 150 RX1 yX1_has v_X1_has) := goodIn_app (goodIn_of _ (by decide +kernel)) (gi cm_X11_wish_2 gd_X1_has)
set_option maxRecDepth 20000 in
theorem gv_X11_wish_59_X11_refuse : GoodIn v_X11_wish (wsV RX11 59 RX11 yX11_refuse v_X11_refuse) := goodIn_app (goodIn_of _ (by decide +kernel)) (gi cm_X11_wish_3 gd_X11_refuse)
set_option maxHeartbeats 4000000 in
set_option maxRecDepth 100000 in
theorem c_X11_wish (l : Launch) (G : va_G) (cI cJ cZ cD cR cT : ClassId) (h0 : Nat) (u1 : Int32) (h0_0 : Nat) (h0_1 : Nat) (h0_2 : Nat) (h0_3 : Nat) (h0_6 : Nat) (h0_7 : Nat) (h0_8 : Nat) (h0_10 : Nat) (h0_11 : Nat) (h0_13 : Nat) (h0_0_0 : Nat) (h0_0_1 : Nat) (h0_0_2 : Nat) (h0_0_3 : Nat) (h0_0_4 : Nat) (h0_0_5 : Nat) (h0_0_8 : Nat) (h0_0_15 : Nat) (h0_0_16 : Nat) (h0_0_1_1 : Nat) (h0_0_1_2 : Nat) (h0_0_1_3 : Nat) (h0_0_1_4 : Nat) (h0_0_1_5 : Nat) (h0_0_1_6 : Nat) (h0_0_1_7 : Nat) (h0_0_1_9 : Nat) (h0_0_1_10 : Nat) (h0_0_1_11 : Nat) (sz : Nat) : Met l yX11_wish v_X11_wish ({ frames := 2, cells := 0, slots := 0, locals := 61 }) (va_Pc [.ref h0, .int u1] (PreW G (tys6 cI cJ cZ cD cR cT) [(h0, .inr (11, [.ref h0_0, .ref h0_1, .ref h0_2, .ref h0_3, .int 0, .int 0, .ref h0_6, .ref h0_7, .ref h0_8, .int 0, .ref h0_10, .ref h0_11, .int 0, .ref h0_13, .int 0, .int 0])), (h0_0, .inr (0, [.ref h0_0_0, .ref h0_0_1, .ref h0_0_2, .ref h0_0_3, .ref h0_0_4, .ref h0_0_5, .int 0, .int 0, .ref h0_0_8, .int 0, .int 0, .int 0, .int 0, .long 0, .int 0, .ref h0_0_15, .ref h0_0_16])), (h0_0_1, .inr (1, [.int 0, .ref h0_0_1_1, .ref h0_0_1_2, .ref h0_0_1_3, .ref h0_0_1_4, .ref h0_0_1_5, .ref h0_0_1_6, .ref h0_0_1_7, .int 0, .ref h0_0_1_9, .ref h0_0_1_10, .ref h0_0_1_11, .int (-1), .long 0, .long 0]))] sz)) (QW (RI (fun r => r = F_wish u1)) G (va_A [(h0, .inr (11, [.ref h0_0, .ref h0_1, .ref h0_2, .ref h0_3, .int 0, .int 0, .ref h0_6, .ref h0_7, .ref h0_8, .int 0, .ref h0_10, .ref h0_11, .int 0, .ref h0_13, .int 0, .int 0])), (h0_0, .inr (0, [.ref h0_0_0, .ref h0_0_1, .ref h0_0_2, .ref h0_0_3, .ref h0_0_4, .ref h0_0_5, .int 0, .int 0, .ref h0_0_8, .int 0, .int 0, .int 0, .int 0, .long 0, .int 0, .ref h0_0_15, .ref h0_0_16])), (h0_0_1, .inr (1, [.int 0, .ref h0_0_1_1, .ref h0_0_1_2, .ref h0_0_1_3, .ref h0_0_1_4, .ref h0_0_1_5, .ref h0_0_1_6, .ref h0_0_1_7, .int 0, .ref h0_0_1_9, .ref h0_0_1_10, .ref h0_0_1_11, .int (-1), .long 0, .long 0]))] sz) (fun q g => [])) 0 0 (va_A [(h0, .inr (11, [.ref h0_0, .ref h0_1, .ref h0_2, .ref h0_3, .int 0, .int 0, .ref h0_6, .ref h0_7, .ref h0_8, .int 0, .ref h0_10, .ref h0_11, .int 0, .ref h0_13, .int 0, .int 0])), (h0_0, .inr (0, [.ref h0_0_0, .ref h0_0_1, .ref h0_0_2, .ref h0_0_3, .ref h0_0_4, .ref h0_0_5, .int 0, .int 0, .ref h0_0_8, .int 0, .int 0, .int 0, .int 0, .long 0, .int 0, .ref h0_0_15, .ref h0_0_16])), (h0_0_1, .inr (1, [.int 0, .ref h0_0_1_1, .ref h0_0_1_2, .ref h0_0_1_3, .ref h0_0_1_4, .ref h0_0_1_5, .ref h0_0_1_6, .ref h0_0_1_7, .int 0, .ref h0_0_1_9, .ref h0_0_1_10, .ref h0_0_1_11, .int (-1), .long 0, .long 0]))] sz) := by
  refine metW (cc := cX11_wish) (maxL := 2) (ret := (some .int)) (by decide) rfl (Nat.le_of_ble_eq_true rfl) ?_
  intro p e s m below meth c A ls hx hb hr hml hown hts hlocks hin hKK hP hD hA hS hl
  have hK := hKK.1
  have hown : s.vm.findClass RX11 = some m.cls := hown
  have hl : lv_has ls 2 [(0, .ref h0), (1, .int u1)] := hl
  have hP : va_P G vwCl [(h0, .inr (11, [.ref h0_0, .ref h0_1, .ref h0_2, .ref h0_3, .int 0, .int 0, .ref h0_6, .ref h0_7, .ref h0_8, .int 0, .ref h0_10, .ref h0_11, .int 0, .ref h0_13, .int 0, .int 0])), (h0_0, .inr (0, [.ref h0_0_0, .ref h0_0_1, .ref h0_0_2, .ref h0_0_3, .ref h0_0_4, .ref h0_0_5, .int 0, .int 0, .ref h0_0_8, .int 0, .int 0, .int 0, .int 0, .long 0, .int 0, .ref h0_0_15, .ref h0_0_16])), (h0_0_1, .inr (1, [.int 0, .ref h0_0_1_1, .ref h0_0_1_2, .ref h0_0_1_3, .ref h0_0_1_4, .ref h0_0_1_5, .ref h0_0_1_6, .ref h0_0_1_7, .int 0, .ref h0_0_1_9, .ref h0_0_1_10, .ref h0_0_1_11, .int (-1), .long 0, .long 0]))] s.heap := hP
  have hD : va_D A [(h0, .inr (11, [.ref h0_0, .ref h0_1, .ref h0_2, .ref h0_3, .int 0, .int 0, .ref h0_6, .ref h0_7, .ref h0_8, .int 0, .ref h0_10, .ref h0_11, .int 0, .ref h0_13, .int 0, .int 0])), (h0_0, .inr (0, [.ref h0_0_0, .ref h0_0_1, .ref h0_0_2, .ref h0_0_3, .ref h0_0_4, .ref h0_0_5, .int 0, .int 0, .ref h0_0_8, .int 0, .int 0, .int 0, .int 0, .long 0, .int 0, .ref h0_0_15, .ref h0_0_16])), (h0_0_1, .inr (1, [.int 0, .ref h0_0_1_1, .ref h0_0_1_2, .ref h0_0_1_3, .ref h0_0_1_4, .ref h0_0_1_5, .ref h0_0_1_6, .ref h0_0_1_7, .int 0, .ref h0_0_1_9, .ref h0_0_1_10, .ref h0_0_1_11, .int (-1), .long 0, .long 0]))] := hD
  refine lv_aload_n hx hb dX11_wish_0 rfl (lv_at hl 0 rfl) ?_
  refine va_get (D := G) (ci := 11) (v := .ref h0_0) (C := RX11) (T := TX11) (N := 16) hx hb hts cm_X11_wish_0 hown hK hP 0 rfl rfl 0 (by decide) (hts _ (dmem (j := 0) rfl)) (fun _ h9 => h9) rfl dX11_wish_1 ?_
  refine va_get (D := G) (ci := 0) (v := .ref h0_0_1) (C := RX0) (T := TX0) (N := 17) hx hb hts cm_X11_wish_1 hown hK hP 1 rfl rfl 1 (by decide) (hts _ (dmem (j := 1) rfl)) (fun _ h9 => h9) rfl dX11_wish_4 ?_
  refine lv_iload_n hx hb dX11_wish_7 rfl (lv_at hl 1 rfl) ?_
  refine goV (As := [.int u1]) (rest := []) (wr := [(h0, .inr (11, [.ref h0_0, .ref h0_1, .ref h0_2, .ref h0_3, .int 0, .int 0, .ref h0_6, .ref h0_7, .ref h0_8, .int 0, .ref h0_10, .ref h0_11, .int 0, .ref h0_13, .int 0, .int 0])), (h0_0, .inr (0, [.ref h0_0_0, .ref h0_0_1, .ref h0_0_2, .ref h0_0_3, .ref h0_0_4, .ref h0_0_5, .int 0, .int 0, .ref h0_0_8, .int 0, .int 0, .int 0, .int 0, .long 0, .int 0, .ref h0_0_15, .ref h0_0_16]))]) ⟨hx, hb, hml, hown, hts⟩ (c_X1_has l G cI cJ cZ cD cR cT h0_0_1 u1 h0_0_1_1 h0_0_1_2 h0_0_1_3 h0_0_1_4 h0_0_1_5 h0_0_1_6 h0_0_1_7 h0_0_1_9 h0_0_1_10 h0_0_1_11 _) (cwV 1 hts gv_X11_wish_150_X1_has rfl rfl rfl (by decide +kernel) ⟨Nat.le_of_ble_eq_true rfl, Nat.le_of_ble_eq_true rfl⟩) 2 rfl rfl rfl hKK hP hD hS hA [2] [0, 1] rfl rfl (by decide +kernel) (by decide +kernel) (by decide +kernel) rfl hl.1 rfl (lv_room (Nat.le_of_ble_eq_true rfl)) dX11_wish_8 ⟨Nat.le_of_ble_eq_true rfl, Nat.le_of_ble_eq_true rfl⟩ (fun v2 q1 gq1 H locs hv2 => appW (ws' := [(h0, .inr (11, [.ref h0_0, .ref h0_1, .ref h0_2, .ref h0_3, .int 0, .int 0, .ref h0_6, .ref h0_7, .ref h0_8, .int 0, .ref h0_10, .ref h0_11, .int 0, .ref h0_13, .int 0, .int 0])), (h0_0, .inr (0, [.ref h0_0_0, .ref h0_0_1, .ref h0_0_2, .ref h0_0_3, .ref h0_0_4, .ref h0_0_5, .int 0, .int 0, .ref h0_0_8, .int 0, .int 0, .int 0, .int 0, .long 0, .int 0, .ref h0_0_15, .ref h0_0_16])), (h0_0_1, .inr (1, [.int 0, .ref h0_0_1_1, .ref h0_0_1_2, .ref h0_0_1_3, .ref h0_0_1_4, .ref h0_0_1_5, .ref h0_0_1_6, .ref h0_0_1_7, .int 0, .ref h0_0_1_9, .ref h0_0_1_10, .ref h0_0_1_11, .int (-1), .long 0, .long 0]))]) rfl (fun hP hD hS => ?_))
  obtain ⟨_, rfl, rfl⟩ := hv2
  refine lv_if_ne (tgt := 21) hx hb dX11_wish_11 (by decide) (fun c => absurd c (by decide)) (fun _ => ?_)
  refine lv_aload_n hx hb dX11_wish_14 rfl (lv_at hl 0 rfl) ?_
  refine lv_bipush (v := (-2)) hx hb dX11_wish_15 (by decide) ?_
  refine goV (As := [.int (-2)]) (rest := []) (wr := [(h0_0, .inr (0, [.ref h0_0_0, .ref h0_0_1, .ref h0_0_2, .ref h0_0_3, .ref h0_0_4, .ref h0_0_5, .int 0, .int 0, .ref h0_0_8, .int 0, .int 0, .int 0, .int 0, .long 0, .int 0, .ref h0_0_15, .ref h0_0_16])), (h0_0_1, .inr (1, [.int 0, .ref h0_0_1_1, .ref h0_0_1_2, .ref h0_0_1_3, .ref h0_0_1_4, .ref h0_0_1_5, .ref h0_0_1_6, .ref h0_0_1_7, .int 0, .ref h0_0_1_9, .ref h0_0_1_10, .ref h0_0_1_11, .int (-1), .long 0, .long 0]))]) ⟨hx, hb, hml, hown, hts⟩ (c_X11_refuse l G cI cJ cZ cD cR cT h0 (-2) h0_0 h0_1 h0_2 h0_3 0 0 h0_6 h0_7 h0_8 0 h0_10 h0_11 0 h0_13 0 0 _) (cwV 1 hts gv_X11_wish_59_X11_refuse rfl rfl rfl (by decide +kernel) ⟨Nat.le_of_ble_eq_true rfl, Nat.le_of_ble_eq_true rfl⟩) 0 rfl rfl rfl hKK hP hD hS hA [0] [1, 2] rfl rfl (by decide +kernel) (by decide +kernel) (by decide +kernel) rfl hl.1 rfl (lv_room (Nat.le_of_ble_eq_true rfl)) dX11_wish_17 ⟨Nat.le_of_ble_eq_true rfl, Nat.le_of_ble_eq_true rfl⟩ (fun v5 q4 gq4 H locs hv5 => appW (ws' := [(h0_0, .inr (0, [.ref h0_0_0, .ref h0_0_1, .ref h0_0_2, .ref h0_0_3, .ref h0_0_4, .ref h0_0_5, .int 0, .int 0, .ref h0_0_8, .int 0, .int 0, .int 0, .int 0, .long 0, .int 0, .ref h0_0_15, .ref h0_0_16])), (h0_0_1, .inr (1, [.int 0, .ref h0_0_1_1, .ref h0_0_1_2, .ref h0_0_1_3, .ref h0_0_1_4, .ref h0_0_1_5, .ref h0_0_1_6, .ref h0_0_1_7, .int 0, .ref h0_0_1_9, .ref h0_0_1_10, .ref h0_0_1_11, .int (-1), .long 0, .long 0])), (h0, .inr (11, [.ref h0_0, .ref h0_1, .ref h0_2, .ref h0_3, .int 0, .int 0, .ref h0_6, .ref h0_7, .ref h0_8, .int 0, .ref h0_10, .ref h0_11, .int 0, .ref h0_13, .int 0, .int (-2)]))]) rfl (fun hP hD hS => ?_))
  obtain ⟨_, rfl, rfl⟩ := hv5
  exact retI hx hb hr hlocks ⟨_, rfl, by have hz0 : (0 : Int32).toInt = 0 := rfl; have hz1 : (1 : Int32).toInt = 1 := rfl; unfold F_wish; (repeat' split) <;> first | rfl | (exfalso; omega)⟩ hP hD hS (fun _ => 0) (fun _ _ => 0) [] (by decide +kernel) rfl dX11_wish_20
def d_X11_clear : List Cond := [Cond.fieldLink RX11 309 "NoRent" "wishes" "I", Cond.fieldLink RX11 312 "NoRent" "cropsTold" "I"]
def v_X11_clear : List Cond := Cond.code yX11_clear cX11_clear 2 (some .int) :: (d_X11_clear ++ (wsX110 ++ ([] : List Cond)))
theorem cm_X11_clear_0 : ∀ w ∈ wsX110, w ∈ v_X11_clear := fun _ h => List.mem_cons_of_mem _ (List.mem_append_right _ (List.mem_append_left _ h))
theorem gd_X11_clear : Gd v_X11_clear := gd_mk (by decide +kernel) (gd_app gd_X11 gd_nil)
set_option maxHeartbeats 4000000 in
set_option maxRecDepth 100000 in
theorem c_X11_clear (l : Launch) (G : va_G) (cI cJ cZ cD cR cT : ClassId) (h0 : Nat) (h0_0 : Nat) (h0_1 : Nat) (h0_2 : Nat) (h0_3 : Nat) (h0_6 : Nat) (h0_7 : Nat) (h0_8 : Nat) (h0_10 : Nat) (h0_11 : Nat) (h0_13 : Nat) (sz : Nat) : Met l yX11_clear v_X11_clear ({ frames := 1, cells := 0, slots := 0, locals := 40 }) (va_Pc [.ref h0] (PreW G (tys6 cI cJ cZ cD cR cT) [(h0, .inr (11, [.ref h0_0, .ref h0_1, .ref h0_2, .ref h0_3, .int 0, .int 0, .ref h0_6, .ref h0_7, .ref h0_8, .int 0, .ref h0_10, .ref h0_11, .int 0, .ref h0_13, .int 0, .int 0]))] sz)) (QW (RI (fun r => r = F_clear)) G (va_A [(h0, .inr (11, [.ref h0_0, .ref h0_1, .ref h0_2, .ref h0_3, .int 0, .int 0, .ref h0_6, .ref h0_7, .ref h0_8, .int 0, .ref h0_10, .ref h0_11, .int 0, .ref h0_13, .int 0, .int 0]))] sz) (fun q g => [])) 0 0 (va_A [(h0, .inr (11, [.ref h0_0, .ref h0_1, .ref h0_2, .ref h0_3, .int 0, .int 0, .ref h0_6, .ref h0_7, .ref h0_8, .int 0, .ref h0_10, .ref h0_11, .int 0, .ref h0_13, .int 0, .int 0]))] sz) := by
  refine metW (cc := cX11_clear) (maxL := 2) (ret := (some .int)) (by decide) rfl (Nat.le_of_ble_eq_true rfl) ?_
  intro p e s m below meth c A ls hx hb hr hml hown hts hlocks hin hKK hP hD hA hS hl
  have hK := hKK.1
  have hown : s.vm.findClass RX11 = some m.cls := hown
  have hl : lv_has ls 2 [(0, .ref h0)] := hl
  have hP : va_P G vwCl [(h0, .inr (11, [.ref h0_0, .ref h0_1, .ref h0_2, .ref h0_3, .int 0, .int 0, .ref h0_6, .ref h0_7, .ref h0_8, .int 0, .ref h0_10, .ref h0_11, .int 0, .ref h0_13, .int 0, .int 0]))] s.heap := hP
  have hD : va_D A [(h0, .inr (11, [.ref h0_0, .ref h0_1, .ref h0_2, .ref h0_3, .int 0, .int 0, .ref h0_6, .ref h0_7, .ref h0_8, .int 0, .ref h0_10, .ref h0_11, .int 0, .ref h0_13, .int 0, .int 0]))] := hD
  refine lv_aload_n hx hb dX11_clear_0 rfl (lv_at hl 0 rfl) ?_
  refine va_get (D := G) (ci := 11) (v := .int 0) (C := RX11) (T := TX11) (N := 16) hx hb hts cm_X11_clear_0 hown hK hP 0 rfl rfl 9 (by decide) (hts _ (dmem (j := 0) rfl)) (fun _ h9 => h9) rfl dX11_clear_1 ?_
  refine lv_istore_n (lv' := [(1, .int 0), (0, .ref h0)]) hx hb dX11_clear_4 rfl hl (by decide) rfl (fun ls hl => ?_)
  refine lv_aload_n hx hb dX11_clear_5 rfl (lv_at hl 1 rfl) ?_
  refine lv_iconst (v := 0) hx hb dX11_clear_6 (by decide) ?_
  refine va_put (D := G) (ci := 11) (v := .int 0) (ty := .int) (C := RX11) (T := TX11) (N := 16) hx hb hts cm_X11_clear_0 tyX11 tyX11_ok nmX11 hown hK hP hD hS 0 rfl rfl 9 (by decide) (hts _ (dmem (j := 0) rfl)) (fun _ h9 => h9) rfl (by decide +kernel) rfl rfl (Nat.le_of_ble_eq_true rfl) dX11_clear_7 (fun H locs => setW (ws' := [(h0, .inr (11, [.ref h0_0, .ref h0_1, .ref h0_2, .ref h0_3, .int 0, .int 0, .ref h0_6, .ref h0_7, .ref h0_8, .int 0, .ref h0_10, .ref h0_11, .int 0, .ref h0_13, .int 0, .int 0]))]) rfl (fun hP hD hS => ?_))
  refine lv_aload_n hx hb dX11_clear_10 rfl (lv_at hl 1 rfl) ?_
  refine lv_iconst (v := 0) hx hb dX11_clear_11 (by decide) ?_
  refine va_put (D := G) (ci := 11) (v := .int 0) (ty := .int) (C := RX11) (T := TX11) (N := 16) hx hb hts cm_X11_clear_0 tyX11 tyX11_ok nmX11 hown hK hP hD hS 0 rfl rfl 12 (by decide) (hts _ (dmem (j := 1) rfl)) (fun _ h9 => h9) rfl (by decide +kernel) rfl rfl (Nat.le_of_ble_eq_true rfl) dX11_clear_12 (fun H locs => setW (ws' := [(h0, .inr (11, [.ref h0_0, .ref h0_1, .ref h0_2, .ref h0_3, .int 0, .int 0, .ref h0_6, .ref h0_7, .ref h0_8, .int 0, .ref h0_10, .ref h0_11, .int 0, .ref h0_13, .int 0, .int 0]))]) rfl (fun hP hD hS => ?_))
  refine lv_iload_n hx hb dX11_clear_15 rfl (lv_at hl 0 rfl) ?_
  exact retI hx hb hr hlocks ⟨_, rfl, by have hz0 : (0 : Int32).toInt = 0 := rfl; have hz1 : (1 : Int32).toInt = 1 := rfl; unfold F_clear; (repeat' split) <;> first | rfl | (exfalso; omega)⟩ hP hD hS (fun _ => 0) (fun _ _ => 0) [] (by decide +kernel) rfl dX11_clear_16
def d_X11_crops : List Cond := [Cond.methodLink RX11 54 yX11_within, Cond.static yX11_within, Cond.initialized RX11, Cond.fieldLink RX11 312 "NoRent" "cropsTold" "I", Cond.fieldLink RX11 45 "NoRent" "cropPrice" "[I", Cond.fieldLink RX11 48 "NoRent" "cropSacks" "[I", Cond.methodLink RX11 77 yX11_accept, Cond.instanceMethod yX11_accept, Cond.selects RX11 yX11_accept yX11_accept, Cond.methodLink RX11 59 yX11_refuse, Cond.instanceMethod yX11_refuse, Cond.selects RX11 yX11_refuse yX11_refuse]
def v_X11_crops : List Cond := Cond.code yX11_crops cX11_crops 3 (some .int) :: (d_X11_crops ++ (v_X11_within ++ (wsX110 ++ (v_X11_accept ++ (v_X11_refuse ++ ([] : List Cond))))))
theorem cm_X11_crops_0 : ∀ w ∈ v_X11_within, w ∈ v_X11_crops := fun _ h => List.mem_cons_of_mem _ (List.mem_append_right _ (List.mem_append_left _ h))
theorem cm_X11_crops_1 : ∀ w ∈ wsX110, w ∈ v_X11_crops := fun _ h => List.mem_cons_of_mem _ (List.mem_append_right _ (List.mem_append_right _ (List.mem_append_left _ h)))
theorem cm_X11_crops_2 : ∀ w ∈ v_X11_accept, w ∈ v_X11_crops := fun _ h => List.mem_cons_of_mem _ (List.mem_append_right _ (List.mem_append_right _ (List.mem_append_right _ (List.mem_append_left _ h))))
theorem cm_X11_crops_3 : ∀ w ∈ v_X11_refuse, w ∈ v_X11_crops := fun _ h => List.mem_cons_of_mem _ (List.mem_append_right _ (List.mem_append_right _ (List.mem_append_right _ (List.mem_append_right _ (List.mem_append_left _ h)))))
theorem gd_X11_crops : Gd v_X11_crops := gd_mk (by decide +kernel) (gd_app gd_X11_within (gd_app gd_X11 (gd_app gd_X11_accept (gd_app gd_X11_refuse gd_nil))))
set_option maxRecDepth 20000 in
theorem gv_X11_crops_54_X11_within : GoodIn v_X11_crops (va_wsS RX11 54 yX11_within v_X11_within) := goodIn_app (goodIn_of _ (by decide +kernel)) (gi cm_X11_crops_0 gd_X11_within)
set_option maxRecDepth 20000 in
theorem gv_X11_crops_77_X11_accept : GoodIn v_X11_crops (wsV RX11 77 RX11 yX11_accept v_X11_accept) := goodIn_app (goodIn_of _ (by decide +kernel)) (gi cm_X11_crops_2 gd_X11_accept)
set_option maxRecDepth 20000 in
theorem gv_X11_crops_59_X11_refuse : GoodIn v_X11_crops (wsV RX11 59 RX11 yX11_refuse v_X11_refuse) := goodIn_app (goodIn_of _ (by decide +kernel)) (gi cm_X11_crops_3 gd_X11_refuse)
set_option maxHeartbeats 4000000 in
set_option maxRecDepth 100000 in
theorem c_X11_crops (l : Launch) (G : va_G) (cI cJ cZ cD cR cT : ClassId) (h0 : Nat) (u1 : Int32) (u2 : Int32) (h0_0 : Nat) (h0_1 : Nat) (h0_2 : Nat) (h0_3 : Nat) (h0_6 : Nat) (h0_7 : Nat) (h0_8 : Nat) (h0_10 : Nat) (h0_11 : Nat) (h0_13 : Nat) (sz : Nat) : Met l yX11_crops v_X11_crops ({ frames := 2, cells := 0, slots := 0, locals := 62 }) (va_Pc [.ref h0, .int u1, .int u2] (PreW G (tys6 cI cJ cZ cD cR cT) [(h0, .inr (11, [.ref h0_0, .ref h0_1, .ref h0_2, .ref h0_3, .int 0, .int 0, .ref h0_6, .ref h0_7, .ref h0_8, .int 0, .ref h0_10, .ref h0_11, .int 0, .ref h0_13, .int 0, .int 0])), (h0_10, .inl (cI, 3, .inl (fun _ => 0))), (h0_11, .inl (cI, 3, .inl (fun _ => 0)))] sz)) (QW (RI (fun r => r = F_crops u1 u2)) G (va_A [(h0, .inr (11, [.ref h0_0, .ref h0_1, .ref h0_2, .ref h0_3, .int 0, .int 0, .ref h0_6, .ref h0_7, .ref h0_8, .int 0, .ref h0_10, .ref h0_11, .int 0, .ref h0_13, .int 0, .int 0])), (h0_10, .inl (cI, 3, .inl (fun _ => 0))), (h0_11, .inl (cI, 3, .inl (fun _ => 0)))] sz) (fun q g => [])) 0 0 (va_A [(h0, .inr (11, [.ref h0_0, .ref h0_1, .ref h0_2, .ref h0_3, .int 0, .int 0, .ref h0_6, .ref h0_7, .ref h0_8, .int 0, .ref h0_10, .ref h0_11, .int 0, .ref h0_13, .int 0, .int 0])), (h0_10, .inl (cI, 3, .inl (fun _ => 0))), (h0_11, .inl (cI, 3, .inl (fun _ => 0)))] sz) := by
  refine metW (cc := cX11_crops) (maxL := 3) (ret := (some .int)) (by decide) rfl (Nat.le_of_ble_eq_true rfl) ?_
  intro p e s m below meth c A ls hx hb hr hml hown hts hlocks hin hKK hP hD hA hS hl
  have hK := hKK.1
  have hown : s.vm.findClass RX11 = some m.cls := hown
  have hl : lv_has ls 3 [(0, .ref h0), (1, .int u1), (2, .int u2)] := hl
  have hP : va_P G vwCl [(h0, .inr (11, [.ref h0_0, .ref h0_1, .ref h0_2, .ref h0_3, .int 0, .int 0, .ref h0_6, .ref h0_7, .ref h0_8, .int 0, .ref h0_10, .ref h0_11, .int 0, .ref h0_13, .int 0, .int 0])), (h0_10, .inl (cI, 3, .inl (fun _ => 0))), (h0_11, .inl (cI, 3, .inl (fun _ => 0)))] s.heap := hP
  have hD : va_D A [(h0, .inr (11, [.ref h0_0, .ref h0_1, .ref h0_2, .ref h0_3, .int 0, .int 0, .ref h0_6, .ref h0_7, .ref h0_8, .int 0, .ref h0_10, .ref h0_11, .int 0, .ref h0_13, .int 0, .int 0])), (h0_10, .inl (cI, 3, .inl (fun _ => 0))), (h0_11, .inl (cI, 3, .inl (fun _ => 0)))] := hD
  refine lv_iload_n hx hb dX11_crops_0 rfl (lv_at hl 1 rfl) ?_
  refine lv_iconst (v := 0) hx hb dX11_crops_1 (by decide) ?_
  refine lv_sipush (v := 10000) hx hb dX11_crops_2 (by decide) ?_
  refine goS (As := [.int u1, .int 0, .int 10000]) (rest := []) (wr := [(h0, .inr (11, [.ref h0_0, .ref h0_1, .ref h0_2, .ref h0_3, .int 0, .int 0, .ref h0_6, .ref h0_7, .ref h0_8, .int 0, .ref h0_10, .ref h0_11, .int 0, .ref h0_13, .int 0, .int 0])), (h0_10, .inl (cI, 3, .inl (fun _ => 0))), (h0_11, .inl (cI, 3, .inl (fun _ => 0)))]) ⟨hx, hb, hml, hown, hts⟩ (c_X11_within l G cI cJ cZ cD cR cT u1 0 10000 u1.toInt 0 10000 _ rfl (by decide) (by decide)) (va_cwS 3 hts gv_X11_crops_54_X11_within rfl rfl rfl (by decide +kernel) ⟨Nat.le_of_ble_eq_true rfl, Nat.le_of_ble_eq_true rfl⟩) hKK hP hD hS hA [] [0, 1, 2] rfl rfl (by decide +kernel) (by decide +kernel) (by decide +kernel) rfl hl.1 rfl (lv_room (Nat.le_of_ble_eq_true rfl)) dX11_crops_5 ⟨Nat.le_of_ble_eq_true rfl, Nat.le_of_ble_eq_true rfl⟩ (fun v2 q1 gq1 H locs hv2 => appW (ws' := [(h0, .inr (11, [.ref h0_0, .ref h0_1, .ref h0_2, .ref h0_3, .int 0, .int 0, .ref h0_6, .ref h0_7, .ref h0_8, .int 0, .ref h0_10, .ref h0_11, .int 0, .ref h0_13, .int 0, .int 0])), (h0_10, .inl (cI, 3, .inl (fun _ => 0))), (h0_11, .inl (cI, 3, .inl (fun _ => 0)))]) rfl (fun hP hD hS => ?_))
  obtain ⟨_, rfl, h4⟩ := hv2
  rcases h4 with ⟨rfl, h4⟩ | ⟨rfl, h4⟩
  · refine lv_if_eq (tgt := 22) hx hb dX11_crops_8 (by decide) (fun c => absurd c (by decide)) (fun _ => ?_)
    refine lv_iload_n hx hb dX11_crops_11 rfl (lv_at hl 2 rfl) ?_
    refine lv_iconst (v := 0) hx hb dX11_crops_12 (by decide) ?_
    refine lv_sipush (v := 10000) hx hb dX11_crops_13 (by decide) ?_
    refine goS (As := [.int u2, .int 0, .int 10000]) (rest := []) (wr := [(h0, .inr (11, [.ref h0_0, .ref h0_1, .ref h0_2, .ref h0_3, .int 0, .int 0, .ref h0_6, .ref h0_7, .ref h0_8, .int 0, .ref h0_10, .ref h0_11, .int 0, .ref h0_13, .int 0, .int 0])), (h0_10, .inl (cI, 3, .inl (fun _ => 0))), (h0_11, .inl (cI, 3, .inl (fun _ => 0)))]) ⟨hx, hb, hml, hown, hts⟩ (c_X11_within l G cI cJ cZ cD cR cT u2 0 10000 u2.toInt 0 10000 _ rfl (by decide) (by decide)) (va_cwS 3 hts gv_X11_crops_54_X11_within rfl rfl rfl (by decide +kernel) ⟨Nat.le_of_ble_eq_true rfl, Nat.le_of_ble_eq_true rfl⟩) hKK hP hD hS hA [] [0, 1, 2] rfl rfl (by decide +kernel) (by decide +kernel) (by decide +kernel) rfl hl.1 rfl (lv_room (Nat.le_of_ble_eq_true rfl)) dX11_crops_16 ⟨Nat.le_of_ble_eq_true rfl, Nat.le_of_ble_eq_true rfl⟩ (fun v6 q5 gq5 H locs hv6 => appW (ws' := [(h0, .inr (11, [.ref h0_0, .ref h0_1, .ref h0_2, .ref h0_3, .int 0, .int 0, .ref h0_6, .ref h0_7, .ref h0_8, .int 0, .ref h0_10, .ref h0_11, .int 0, .ref h0_13, .int 0, .int 0])), (h0_10, .inl (cI, 3, .inl (fun _ => 0))), (h0_11, .inl (cI, 3, .inl (fun _ => 0)))]) rfl (fun hP hD hS => ?_))
    obtain ⟨_, rfl, h8⟩ := hv6
    rcases h8 with ⟨rfl, h8⟩ | ⟨rfl, h8⟩
    · refine lv_if_ne (tgt := 28) hx hb dX11_crops_19 (by decide) (fun _ => ?_) (fun c => absurd c (by decide))
      refine lv_aload_n hx hb dX11_crops_28 rfl (lv_at hl 0 rfl) ?_
      refine va_get (D := G) (ci := 11) (v := .int 0) (C := RX11) (T := TX11) (N := 16) hx hb hts cm_X11_crops_1 hown hK hP 0 rfl rfl 12 (by decide) (hts _ (dmem (j := 3) rfl)) (fun _ h9 => h9) rfl dX11_crops_29 ?_
      refine lv_iconst (v := 3) hx hb dX11_crops_32 (by decide) ?_
      refine lv_icmp_lt (tgt := 43) hx hb dX11_crops_33 (by decide) (fun _ => ?_) (fun c => absurd c (by decide))
      refine lv_aload_n hx hb dX11_crops_43 rfl (lv_at hl 0 rfl) ?_
      refine va_get (D := G) (ci := 11) (v := .ref h0_10) (C := RX11) (T := TX11) (N := 16) hx hb hts cm_X11_crops_1 hown hK hP 0 rfl rfl 10 (by decide) (hts _ (dmem (j := 4) rfl)) (fun _ h9 => h9) rfl dX11_crops_44 ?_
      refine lv_aload_n hx hb dX11_crops_47 rfl (lv_at hl 0 rfl) ?_
      refine va_get (D := G) (ci := 11) (v := .int 0) (C := RX11) (T := TX11) (N := 16) hx hb hts cm_X11_crops_1 hown hK hP 0 rfl rfl 12 (by decide) (hts _ (dmem (j := 3) rfl)) (fun _ h9 => h9) rfl dX11_crops_48 ?_
      refine lv_iload_n hx hb dX11_crops_51 rfl (lv_at hl 1 rfl) ?_
      refine va_iast hx hb hK hP hD hS 1 0 rfl rfl (vp_in_iff.mpr (by decide)) dX11_crops_52 (fun H locs => setW (ws' := [(h0, .inr (11, [.ref h0_0, .ref h0_1, .ref h0_2, .ref h0_3, .int 0, .int 0, .ref h0_6, .ref h0_7, .ref h0_8, .int 0, .ref h0_10, .ref h0_11, .int 0, .ref h0_13, .int 0, .int 0])), (h0_10, .inl (cI, 3, .inl (upd (fun _ => 0) 0 u1))), (h0_11, .inl (cI, 3, .inl (fun _ => 0)))]) rfl (fun hP hD hS => ?_))
      refine lv_aload_n hx hb dX11_crops_53 rfl (lv_at hl 0 rfl) ?_
      refine va_get (D := G) (ci := 11) (v := .ref h0_11) (C := RX11) (T := TX11) (N := 16) hx hb hts cm_X11_crops_1 hown hK hP 0 rfl rfl 11 (by decide) (hts _ (dmem (j := 5) rfl)) (fun _ h9 => h9) rfl dX11_crops_54 ?_
      refine lv_aload_n hx hb dX11_crops_57 rfl (lv_at hl 0 rfl) ?_
      refine va_get (D := G) (ci := 11) (v := .int 0) (C := RX11) (T := TX11) (N := 16) hx hb hts cm_X11_crops_1 hown hK hP 0 rfl rfl 12 (by decide) (hts _ (dmem (j := 3) rfl)) (fun _ h9 => h9) rfl dX11_crops_58 ?_
      refine lv_iload_n hx hb dX11_crops_61 rfl (lv_at hl 2 rfl) ?_
      refine va_iast hx hb hK hP hD hS 2 0 rfl rfl (vp_in_iff.mpr (by decide)) dX11_crops_62 (fun H locs => setW (ws' := [(h0, .inr (11, [.ref h0_0, .ref h0_1, .ref h0_2, .ref h0_3, .int 0, .int 0, .ref h0_6, .ref h0_7, .ref h0_8, .int 0, .ref h0_10, .ref h0_11, .int 0, .ref h0_13, .int 0, .int 0])), (h0_10, .inl (cI, 3, .inl (upd (fun _ => 0) 0 u1))), (h0_11, .inl (cI, 3, .inl (upd (fun _ => 0) 0 u2)))]) rfl (fun hP hD hS => ?_))
      refine lv_aload_n hx hb dX11_crops_63 rfl (lv_at hl 0 rfl) ?_
      refine lv_dup hx hb dX11_crops_64 rfl ?_
      refine va_get (D := G) (ci := 11) (v := .int 0) (C := RX11) (T := TX11) (N := 16) hx hb hts cm_X11_crops_1 hown hK hP 0 rfl rfl 12 (by decide) (hts _ (dmem (j := 3) rfl)) (fun _ h9 => h9) rfl dX11_crops_65 ?_
      refine lv_iconst (v := 1) hx hb dX11_crops_68 (by decide) ?_
      refine lv_iadd hx hb dX11_crops_69 ?_
      refine lv_topi (fun x9 ex9 => ?_)
      obtain rfl : 1 = x9 := (ex9.trans (by decide)).symm
      refine va_put (D := G) (ci := 11) (v := .int 1) (ty := .int) (C := RX11) (T := TX11) (N := 16) hx hb hts cm_X11_crops_1 tyX11 tyX11_ok nmX11 hown hK hP hD hS 0 rfl rfl 12 (by decide) (hts _ (dmem (j := 3) rfl)) (fun _ h9 => h9) rfl (by decide +kernel) rfl rfl (Nat.le_of_ble_eq_true rfl) dX11_crops_70 (fun H locs => setW (ws' := [(h0, .inr (11, [.ref h0_0, .ref h0_1, .ref h0_2, .ref h0_3, .int 0, .int 0, .ref h0_6, .ref h0_7, .ref h0_8, .int 0, .ref h0_10, .ref h0_11, .int 1, .ref h0_13, .int 0, .int 0])), (h0_10, .inl (cI, 3, .inl (upd (fun _ => 0) 0 u1))), (h0_11, .inl (cI, 3, .inl (upd (fun _ => 0) 0 u2)))]) rfl (fun hP hD hS => ?_))
      refine lv_aload_n hx hb dX11_crops_73 rfl (lv_at hl 0 rfl) ?_
      refine lv_aload_n hx hb dX11_crops_74 rfl (lv_at hl 0 rfl) ?_
      refine va_get (D := G) (ci := 11) (v := .int 1) (C := RX11) (T := TX11) (N := 16) hx hb hts cm_X11_crops_1 hown hK hP 0 rfl rfl 12 (by decide) (hts _ (dmem (j := 3) rfl)) (fun _ h9 => h9) rfl dX11_crops_75 ?_
      refine goV (As := [.int 1]) (rest := []) (wr := [(h0_10, .inl (cI, 3, .inl (upd (fun _ => 0) 0 u1))), (h0_11, .inl (cI, 3, .inl (upd (fun _ => 0) 0 u2)))]) ⟨hx, hb, hml, hown, hts⟩ (c_X11_accept l G cI cJ cZ cD cR cT h0 1 h0_0 h0_1 h0_2 h0_3 0 0 h0_6 h0_7 h0_8 0 h0_10 h0_11 1 h0_13 0 0 _) (cwV 1 hts gv_X11_crops_77_X11_accept rfl rfl rfl (by decide +kernel) ⟨Nat.le_of_ble_eq_true rfl, Nat.le_of_ble_eq_true rfl⟩) 0 rfl rfl rfl hKK hP hD hS hA [0] [1, 2] rfl rfl (by decide +kernel) (by decide +kernel) (by decide +kernel) rfl hl.1 rfl (lv_room (Nat.le_of_ble_eq_true rfl)) dX11_crops_78 ⟨Nat.le_of_ble_eq_true rfl, Nat.le_of_ble_eq_true rfl⟩ (fun v11 q10 gq10 H locs hv11 => appW (ws' := [(h0_10, .inl (cI, 3, .inl (upd (fun _ => 0) 0 u1))), (h0_11, .inl (cI, 3, .inl (upd (fun _ => 0) 0 u2))), (h0, .inr (11, [.ref h0_0, .ref h0_1, .ref h0_2, .ref h0_3, .int 0, .int 0, .ref h0_6, .ref h0_7, .ref h0_8, .int 0, .ref h0_10, .ref h0_11, .int 1, .ref h0_13, .int 0, .int 0]))]) rfl (fun hP hD hS => ?_))
      obtain ⟨_, rfl, rfl⟩ := hv11
      exact retI hx hb hr hlocks ⟨_, rfl, by have hz0 : (0 : Int32).toInt = 0 := rfl; have hz1 : (1 : Int32).toInt = 1 := rfl; unfold F_crops; (repeat' split) <;> first | rfl | (exfalso; omega)⟩ hP hD hS (fun _ => 0) (fun _ _ => 0) [] (by decide +kernel) rfl dX11_crops_81
    · refine lv_if_ne (tgt := 28) hx hb dX11_crops_19 (by decide) (fun c => absurd c (by decide)) (fun _ => ?_)
      refine lv_aload_n hx hb dX11_crops_22 rfl (lv_at hl 0 rfl) ?_
      refine lv_iconst (v := (-1)) hx hb dX11_crops_23 (by decide) ?_
      refine goV (As := [.int (-1)]) (rest := []) (wr := [(h0_10, .inl (cI, 3, .inl (fun _ => 0))), (h0_11, .inl (cI, 3, .inl (fun _ => 0)))]) ⟨hx, hb, hml, hown, hts⟩ (c_X11_refuse l G cI cJ cZ cD cR cT h0 (-1) h0_0 h0_1 h0_2 h0_3 0 0 h0_6 h0_7 h0_8 0 h0_10 h0_11 0 h0_13 0 0 _) (cwV 1 hts gv_X11_crops_59_X11_refuse rfl rfl rfl (by decide +kernel) ⟨Nat.le_of_ble_eq_true rfl, Nat.le_of_ble_eq_true rfl⟩) 0 rfl rfl rfl hKK hP hD hS hA [0] [1, 2] rfl rfl (by decide +kernel) (by decide +kernel) (by decide +kernel) rfl hl.1 rfl (lv_room (Nat.le_of_ble_eq_true rfl)) dX11_crops_24 ⟨Nat.le_of_ble_eq_true rfl, Nat.le_of_ble_eq_true rfl⟩ (fun v14 q13 gq13 H locs hv14 => appW (ws' := [(h0_10, .inl (cI, 3, .inl (fun _ => 0))), (h0_11, .inl (cI, 3, .inl (fun _ => 0))), (h0, .inr (11, [.ref h0_0, .ref h0_1, .ref h0_2, .ref h0_3, .int 0, .int 0, .ref h0_6, .ref h0_7, .ref h0_8, .int 0, .ref h0_10, .ref h0_11, .int 0, .ref h0_13, .int 0, .int (-1)]))]) rfl (fun hP hD hS => ?_))
      obtain ⟨_, rfl, rfl⟩ := hv14
      exact retI hx hb hr hlocks ⟨_, rfl, by have hz0 : (0 : Int32).toInt = 0 := rfl; have hz1 : (1 : Int32).toInt = 1 := rfl; unfold F_crops; (repeat' split) <;> first | rfl | (exfalso; omega)⟩ hP hD hS (fun _ => 0) (fun _ _ => 0) [] (by decide +kernel) rfl dX11_crops_27
  · refine lv_if_eq (tgt := 22) hx hb dX11_crops_8 (by decide) (fun _ => ?_) (fun c => absurd c (by decide))
    refine lv_aload_n hx hb dX11_crops_22 rfl (lv_at hl 0 rfl) ?_
    refine lv_iconst (v := (-1)) hx hb dX11_crops_23 (by decide) ?_
    refine goV (As := [.int (-1)]) (rest := []) (wr := [(h0_10, .inl (cI, 3, .inl (fun _ => 0))), (h0_11, .inl (cI, 3, .inl (fun _ => 0)))]) ⟨hx, hb, hml, hown, hts⟩ (c_X11_refuse l G cI cJ cZ cD cR cT h0 (-1) h0_0 h0_1 h0_2 h0_3 0 0 h0_6 h0_7 h0_8 0 h0_10 h0_11 0 h0_13 0 0 _) (cwV 1 hts gv_X11_crops_59_X11_refuse rfl rfl rfl (by decide +kernel) ⟨Nat.le_of_ble_eq_true rfl, Nat.le_of_ble_eq_true rfl⟩) 0 rfl rfl rfl hKK hP hD hS hA [0] [1, 2] rfl rfl (by decide +kernel) (by decide +kernel) (by decide +kernel) rfl hl.1 rfl (lv_room (Nat.le_of_ble_eq_true rfl)) dX11_crops_24 ⟨Nat.le_of_ble_eq_true rfl, Nat.le_of_ble_eq_true rfl⟩ (fun v17 q16 gq16 H locs hv17 => appW (ws' := [(h0_10, .inl (cI, 3, .inl (fun _ => 0))), (h0_11, .inl (cI, 3, .inl (fun _ => 0))), (h0, .inr (11, [.ref h0_0, .ref h0_1, .ref h0_2, .ref h0_3, .int 0, .int 0, .ref h0_6, .ref h0_7, .ref h0_8, .int 0, .ref h0_10, .ref h0_11, .int 0, .ref h0_13, .int 0, .int (-1)]))]) rfl (fun hP hD hS => ?_))
    obtain ⟨_, rfl, rfl⟩ := hv17
    exact retI hx hb hr hlocks ⟨_, rfl, by have hz0 : (0 : Int32).toInt = 0 := rfl; have hz1 : (1 : Int32).toInt = 1 := rfl; unfold F_crops; (repeat' split) <;> first | rfl | (exfalso; omega)⟩ hP hD hS (fun _ => 0) (fun _ _ => 0) [] (by decide +kernel) rfl dX11_crops_27
def d_X11_choose : List Cond := [Cond.methodLink RX11 315 yX11_canChoose, Cond.instanceMethod yX11_canChoose, Cond.selects RX11 yX11_canChoose yX11_canChoose, Cond.initialized RX11]
def v_X11_choose : List Cond := Cond.code yX11_choose cX11_choose 8 (some .int) :: (d_X11_choose ++ (v_X11_canChoose ++ ([] : List Cond)))
theorem cm_X11_choose_0 : ∀ w ∈ v_X11_canChoose, w ∈ v_X11_choose := fun _ h => List.mem_cons_of_mem _ (List.mem_append_right _ (List.mem_append_left _ h))
theorem gd_X11_choose : Gd v_X11_choose := gd_mk (by decide +kernel) (gd_app gd_X11_canChoose gd_nil)
set_option maxRecDepth 20000 in
theorem gv_X11_choose_315_X11_canChoose : GoodIn v_X11_choose (wsV RX11 315 RX11 yX11_canChoose v_X11_canChoose) := goodIn_app (goodIn_of _ (by decide +kernel)) (gi cm_X11_choose_0 gd_X11_canChoose)
set_option maxHeartbeats 4000000 in
set_option maxRecDepth 100000 in
theorem c_X11_choose (l : Launch) (G : va_G) (cI cJ cZ cD cR cT : ClassId) (h0 : Nat) (u1 : Int32) (h0_0 : Nat) (h0_1 : Nat) (h0_2 : Nat) (h0_3 : Nat) (h0_6 : Nat) (h0_7 : Nat) (h0_8 : Nat) (h0_10 : Nat) (h0_11 : Nat) (h0_13 : Nat) (h0_0_0 : Nat) (h0_0_1 : Nat) (h0_0_2 : Nat) (h0_0_3 : Nat) (h0_0_4 : Nat) (h0_0_5 : Nat) (h0_0_8 : Nat) (h0_0_15 : Nat) (h0_0_16 : Nat) (sz : Nat) : Met l yX11_choose v_X11_choose ({ frames := 4, cells := 0, slots := 0, locals := 105 }) (va_Pc [.ref h0, .int u1] (PreW G (tys6 cI cJ cZ cD cR cT) [(h0, .inr (11, [.ref h0_0, .ref h0_1, .ref h0_2, .ref h0_3, .int 0, .int 0, .ref h0_6, .ref h0_7, .ref h0_8, .int 0, .ref h0_10, .ref h0_11, .int 0, .ref h0_13, .int 0, .int 0])), (h0_0, .inr (0, [.ref h0_0_0, .ref h0_0_1, .ref h0_0_2, .ref h0_0_3, .ref h0_0_4, .ref h0_0_5, .int 0, .int 0, .ref h0_0_8, .int 0, .int 0, .int 0, .int 0, .long 0, .int 0, .ref h0_0_15, .ref h0_0_16]))] sz)) (QW (RI (fun r => r = F_choose u1)) G (va_A [(h0, .inr (11, [.ref h0_0, .ref h0_1, .ref h0_2, .ref h0_3, .int 0, .int 0, .ref h0_6, .ref h0_7, .ref h0_8, .int 0, .ref h0_10, .ref h0_11, .int 0, .ref h0_13, .int 0, .int 0])), (h0_0, .inr (0, [.ref h0_0_0, .ref h0_0_1, .ref h0_0_2, .ref h0_0_3, .ref h0_0_4, .ref h0_0_5, .int 0, .int 0, .ref h0_0_8, .int 0, .int 0, .int 0, .int 0, .long 0, .int 0, .ref h0_0_15, .ref h0_0_16]))] sz) (fun q g => [])) 0 0 (va_A [(h0, .inr (11, [.ref h0_0, .ref h0_1, .ref h0_2, .ref h0_3, .int 0, .int 0, .ref h0_6, .ref h0_7, .ref h0_8, .int 0, .ref h0_10, .ref h0_11, .int 0, .ref h0_13, .int 0, .int 0])), (h0_0, .inr (0, [.ref h0_0_0, .ref h0_0_1, .ref h0_0_2, .ref h0_0_3, .ref h0_0_4, .ref h0_0_5, .int 0, .int 0, .ref h0_0_8, .int 0, .int 0, .int 0, .int 0, .long 0, .int 0, .ref h0_0_15, .ref h0_0_16]))] sz) := by
  refine metW (cc := cX11_choose) (maxL := 8) (ret := (some .int)) (by decide) rfl (Nat.le_of_ble_eq_true rfl) ?_
  intro p e s m below meth c A ls hx hb hr hml hown hts hlocks hin hKK hP hD hA hS hl
  have hK := hKK.1
  have hown : s.vm.findClass RX11 = some m.cls := hown
  have hl : lv_has ls 8 [(0, .ref h0), (1, .int u1)] := hl
  have hP : va_P G vwCl [(h0, .inr (11, [.ref h0_0, .ref h0_1, .ref h0_2, .ref h0_3, .int 0, .int 0, .ref h0_6, .ref h0_7, .ref h0_8, .int 0, .ref h0_10, .ref h0_11, .int 0, .ref h0_13, .int 0, .int 0])), (h0_0, .inr (0, [.ref h0_0_0, .ref h0_0_1, .ref h0_0_2, .ref h0_0_3, .ref h0_0_4, .ref h0_0_5, .int 0, .int 0, .ref h0_0_8, .int 0, .int 0, .int 0, .int 0, .long 0, .int 0, .ref h0_0_15, .ref h0_0_16]))] s.heap := hP
  have hD : va_D A [(h0, .inr (11, [.ref h0_0, .ref h0_1, .ref h0_2, .ref h0_3, .int 0, .int 0, .ref h0_6, .ref h0_7, .ref h0_8, .int 0, .ref h0_10, .ref h0_11, .int 0, .ref h0_13, .int 0, .int 0])), (h0_0, .inr (0, [.ref h0_0_0, .ref h0_0_1, .ref h0_0_2, .ref h0_0_3, .ref h0_0_4, .ref h0_0_5, .int 0, .int 0, .ref h0_0_8, .int 0, .int 0, .int 0, .int 0, .long 0, .int 0, .ref h0_0_15, .ref h0_0_16]))] := hD
  refine lv_aload_n hx hb dX11_choose_0 rfl (lv_at hl 0 rfl) ?_
  refine lv_iload_n hx hb dX11_choose_1 rfl (lv_at hl 1 rfl) ?_
  refine goV (As := [.int u1]) (rest := []) (wr := []) ⟨hx, hb, hml, hown, hts⟩ (c_X11_canChoose l G cI cJ cZ cD cR cT h0 u1 h0_0 h0_1 h0_2 h0_3 h0_6 h0_7 h0_8 h0_10 h0_11 h0_13 h0_0_0 h0_0_1 h0_0_2 h0_0_3 h0_0_4 h0_0_5 h0_0_8 h0_0_15 h0_0_16 _) (cwV 1 hts gv_X11_choose_315_X11_canChoose rfl rfl rfl (by decide +kernel) ⟨Nat.le_of_ble_eq_true rfl, Nat.le_of_ble_eq_true rfl⟩) 0 rfl rfl rfl hKK hP hD hS hA [0, 1] [] rfl rfl (by decide +kernel) (by decide +kernel) (by decide +kernel) rfl hl.1 rfl (lv_room (Nat.le_of_ble_eq_true rfl)) dX11_choose_2 ⟨Nat.le_of_ble_eq_true rfl, Nat.le_of_ble_eq_true rfl⟩ (fun v2 q1 gq1 H locs hv2 => appW (ws' := []) rfl (fun hP hD hS => ?_))
  obtain ⟨_, rfl, rfl⟩ := hv2
  refine lv_if_ne (tgt := 10) hx hb dX11_choose_5 (by decide) (fun c => absurd c (by decide)) (fun _ => ?_)
  refine lv_iconst (v := (-1)) hx hb dX11_choose_8 (by decide) ?_
  exact retI hx hb hr hlocks ⟨_, rfl, by have hz0 : (0 : Int32).toInt = 0 := rfl; have hz1 : (1 : Int32).toInt = 1 := rfl; unfold F_choose; (repeat' split) <;> first | rfl | (exfalso; omega)⟩ hP hD hS (fun _ => 0) (fun _ _ => 0) [] (by decide +kernel) rfl dX11_choose_9
def d_X11_chosen : List Cond := [Cond.fieldLink RX11 329 "NoRent" "bestLength" "I", Cond.methodLink RX11 54 yX11_within, Cond.static yX11_within, Cond.initialized RX11]
def v_X11_chosen : List Cond := Cond.code yX11_chosen cX11_chosen 2 (some .int) :: (d_X11_chosen ++ (wsX110 ++ (v_X11_within ++ ([] : List Cond))))
theorem cm_X11_chosen_0 : ∀ w ∈ wsX110, w ∈ v_X11_chosen := fun _ h => List.mem_cons_of_mem _ (List.mem_append_right _ (List.mem_append_left _ h))
theorem cm_X11_chosen_1 : ∀ w ∈ v_X11_within, w ∈ v_X11_chosen := fun _ h => List.mem_cons_of_mem _ (List.mem_append_right _ (List.mem_append_right _ (List.mem_append_left _ h)))
theorem gd_X11_chosen : Gd v_X11_chosen := gd_mk (by decide +kernel) (gd_app gd_X11 (gd_app gd_X11_within gd_nil))
set_option maxRecDepth 20000 in
theorem gv_X11_chosen_54_X11_within : GoodIn v_X11_chosen (va_wsS RX11 54 yX11_within v_X11_within) := goodIn_app (goodIn_of _ (by decide +kernel)) (gi cm_X11_chosen_1 gd_X11_within)
set_option maxHeartbeats 4000000 in
set_option maxRecDepth 100000 in
theorem c_X11_chosen (l : Launch) (G : va_G) (cI cJ cZ cD cR cT : ClassId) (h0 : Nat) (u1 : Int32) (h0_0 : Nat) (h0_1 : Nat) (h0_2 : Nat) (h0_3 : Nat) (h0_6 : Nat) (h0_7 : Nat) (h0_8 : Nat) (h0_10 : Nat) (h0_11 : Nat) (h0_13 : Nat) (sz : Nat) : Met l yX11_chosen v_X11_chosen ({ frames := 2, cells := 0, slots := 0, locals := 62 }) (va_Pc [.ref h0, .int u1] (PreW G (tys6 cI cJ cZ cD cR cT) [(h0, .inr (11, [.ref h0_0, .ref h0_1, .ref h0_2, .ref h0_3, .int 0, .int 0, .ref h0_6, .ref h0_7, .ref h0_8, .int 0, .ref h0_10, .ref h0_11, .int 0, .ref h0_13, .int 0, .int 0]))] sz)) (QW (RI (fun r => r = F_chosen u1)) G (va_A [(h0, .inr (11, [.ref h0_0, .ref h0_1, .ref h0_2, .ref h0_3, .int 0, .int 0, .ref h0_6, .ref h0_7, .ref h0_8, .int 0, .ref h0_10, .ref h0_11, .int 0, .ref h0_13, .int 0, .int 0]))] sz) (fun q g => [])) 0 0 (va_A [(h0, .inr (11, [.ref h0_0, .ref h0_1, .ref h0_2, .ref h0_3, .int 0, .int 0, .ref h0_6, .ref h0_7, .ref h0_8, .int 0, .ref h0_10, .ref h0_11, .int 0, .ref h0_13, .int 0, .int 0]))] sz) := by
  refine metW (cc := cX11_chosen) (maxL := 2) (ret := (some .int)) (by decide) rfl (Nat.le_of_ble_eq_true rfl) ?_
  intro p e s m below meth c A ls hx hb hr hml hown hts hlocks hin hKK hP hD hA hS hl
  have hK := hKK.1
  have hown : s.vm.findClass RX11 = some m.cls := hown
  have hl : lv_has ls 2 [(0, .ref h0), (1, .int u1)] := hl
  have hP : va_P G vwCl [(h0, .inr (11, [.ref h0_0, .ref h0_1, .ref h0_2, .ref h0_3, .int 0, .int 0, .ref h0_6, .ref h0_7, .ref h0_8, .int 0, .ref h0_10, .ref h0_11, .int 0, .ref h0_13, .int 0, .int 0]))] s.heap := hP
  have hD : va_D A [(h0, .inr (11, [.ref h0_0, .ref h0_1, .ref h0_2, .ref h0_3, .int 0, .int 0, .ref h0_6, .ref h0_7, .ref h0_8, .int 0, .ref h0_10, .ref h0_11, .int 0, .ref h0_13, .int 0, .int 0]))] := hD
  refine lv_iload_n hx hb dX11_chosen_0 rfl (lv_at hl 1 rfl) ?_
  refine lv_iconst (v := 0) hx hb dX11_chosen_1 (by decide) ?_
  refine lv_aload_n hx hb dX11_chosen_2 rfl (lv_at hl 0 rfl) ?_
  refine va_get (D := G) (ci := 11) (v := .int 0) (C := RX11) (T := TX11) (N := 16) hx hb hts cm_X11_chosen_0 hown hK hP 0 rfl rfl 14 (by decide) (hts _ (dmem (j := 0) rfl)) (fun _ h9 => h9) rfl dX11_chosen_3 ?_
  refine lv_iconst (v := 1) hx hb dX11_chosen_6 (by decide) ?_
  refine lv_isub hx hb dX11_chosen_7 ?_
  refine lv_topi (fun x1 ex1 => ?_)
  obtain rfl : (-1) = x1 := (ex1.trans (by decide)).symm
  refine goS (As := [.int u1, .int 0, .int (-1)]) (rest := []) (wr := [(h0, .inr (11, [.ref h0_0, .ref h0_1, .ref h0_2, .ref h0_3, .int 0, .int 0, .ref h0_6, .ref h0_7, .ref h0_8, .int 0, .ref h0_10, .ref h0_11, .int 0, .ref h0_13, .int 0, .int 0]))]) ⟨hx, hb, hml, hown, hts⟩ (c_X11_within l G cI cJ cZ cD cR cT u1 0 (-1) u1.toInt 0 (-1) _ rfl (by decide) (by decide)) (va_cwS 3 hts gv_X11_chosen_54_X11_within rfl rfl rfl (by decide +kernel) ⟨Nat.le_of_ble_eq_true rfl, Nat.le_of_ble_eq_true rfl⟩) hKK hP hD hS hA [] [0] rfl rfl (by decide +kernel) (by decide +kernel) (by decide +kernel) rfl hl.1 rfl (lv_room (Nat.le_of_ble_eq_true rfl)) dX11_chosen_8 ⟨Nat.le_of_ble_eq_true rfl, Nat.le_of_ble_eq_true rfl⟩ (fun v3 q2 gq2 H locs hv3 => appW (ws' := [(h0, .inr (11, [.ref h0_0, .ref h0_1, .ref h0_2, .ref h0_3, .int 0, .int 0, .ref h0_6, .ref h0_7, .ref h0_8, .int 0, .ref h0_10, .ref h0_11, .int 0, .ref h0_13, .int 0, .int 0]))]) rfl (fun hP hD hS => ?_))
  obtain ⟨_, rfl, h5⟩ := hv3
  rcases h5 with ⟨rfl, h5⟩ | ⟨rfl, h5⟩
  · exfalso; omega
  · refine lv_if_eq (tgt := 23) hx hb dX11_chosen_11 (by decide) (fun _ => ?_) (fun c => absurd c (by decide))
    refine lv_iconst (v := (-1)) hx hb dX11_chosen_23 (by decide) ?_
    exact retI hx hb hr hlocks ⟨_, rfl, by have hz0 : (0 : Int32).toInt = 0 := rfl; have hz1 : (1 : Int32).toInt = 1 := rfl; unfold F_chosen; (repeat' split) <;> first | rfl | (exfalso; omega)⟩ hP hD hS (fun _ => 0) (fun _ _ => 0) [] (by decide +kernel) rfl dX11_chosen_24
