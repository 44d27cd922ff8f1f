theorem dX11_last_0 : decode cX11_last 0 = .ok (.iload_n 1, 1) := by decide +kernel
theorem dX11_last_1 : decode cX11_last 1 = .ok (.iconst 1, 1) := by decide +kernel
theorem dX11_last_2 : decode cX11_last 2 = .ok (.sipush 10000, 3) := by decide +kernel
theorem dX11_last_5 : decode cX11_last 5 = .ok (.invokestatic 54, 3) := by decide +kernel
theorem dX11_last_8 : decode cX11_last 8 = .ok (.ifCond .eq 25, 3) := by decide +kernel
theorem dX11_last_11 : decode cX11_last 11 = .ok (.iload_n 2, 1) := by decide +kernel
theorem dX11_last_12 : decode cX11_last 12 = .ok (.iconst 0, 1) := by decide +kernel
theorem dX11_last_13 : decode cX11_last 13 = .ok (.sipush 1000, 3) := by decide +kernel
theorem dX11_last_16 : decode cX11_last 16 = .ok (.invokestatic 54, 3) := by decide +kernel
theorem dX11_last_19 : decode cX11_last 19 = .ok (.ifCond .eq 14, 3) := by decide +kernel
theorem dX11_last_22 : decode cX11_last 22 = .ok (.iload_n 3, 1) := by decide +kernel
theorem dX11_last_23 : decode cX11_last 23 = .ok (.iconst 0, 1) := by decide +kernel
theorem dX11_last_24 : decode cX11_last 24 = .ok (.sipush 1000, 3) := by decide +kernel
theorem dX11_last_27 : decode cX11_last 27 = .ok (.invokestatic 54, 3) := by decide +kernel
theorem dX11_last_30 : decode cX11_last 30 = .ok (.ifCond .ne 5, 3) := by decide +kernel
theorem dX11_last_35 : decode cX11_last 35 = .ok (.aload_n 0, 1) := by decide +kernel
theorem dX11_last_36 : decode cX11_last 36 = .ok (.getfield 12, 3) := by decide +kernel
theorem dX11_last_39 : decode cX11_last 39 = .ok (.getfield 98, 3) := by decide +kernel
theorem dX11_last_42 : decode cX11_last 42 = .ok (.getfield 102, 3) := by decide +kernel
theorem dX11_last_45 : decode cX11_last 45 = .ok (.i2l, 1) := by decide +kernel
theorem dX11_last_46 : decode cX11_last 46 = .ok (.lstore 4, 2) := by decide +kernel
theorem dX11_last_48 : decode cX11_last 48 = .ok (.iload_n 2, 1) := by decide +kernel
theorem dX11_last_49 : decode cX11_last 49 = .ok (.i2l, 1) := by decide +kernel
theorem dX11_last_50 : decode cX11_last 50 = .ok (.lstore 6, 2) := by decide +kernel
theorem dX11_last_52 : decode cX11_last 52 = .ok (.iconst 0, 1) := by decide +kernel
theorem dX11_last_53 : decode cX11_last 53 = .ok (.istore 8, 2) := by decide +kernel
theorem dX11_last_55 : decode cX11_last 55 = .ok (.iload 8, 2) := by decide +kernel
theorem dX11_last_57 : decode cX11_last 57 = .ok (.sipush 400, 3) := by decide +kernel
theorem dX11_last_60 : decode cX11_last 60 = .ok (.if_icmp .ge 36, 3) := by decide +kernel
theorem dX11_last_96 : decode cX11_last 96 = .ok (.sipush 400, 3) := by decide +kernel
theorem dX11_last_99 : decode cX11_last 99 = .ok (.ireturn, 1) := by decide +kernel
theorem dX11_last_63 : decode cX11_last 63 = .ok (.lload 4, 2) := by decide +kernel
theorem dX11_last_65 : decode cX11_last 65 = .ok (.iload_n 1, 1) := by decide +kernel
theorem dX11_last_66 : decode cX11_last 66 = .ok (.i2l, 1) := by decide +kernel
theorem dX11_last_67 : decode cX11_last 67 = .ok (.lload 6, 2) := by decide +kernel
theorem dX11_last_69 : decode cX11_last 69 = .ok (.lmul, 1) := by decide +kernel
theorem dX11_last_70 : decode cX11_last 70 = .ok (.lsub, 1) := by decide +kernel
theorem dX11_last_71 : decode cX11_last 71 = .ok (.lstore 4, 2) := by decide +kernel
theorem dX11_last_73 : decode cX11_last 73 = .ok (.lload 4, 2) := by decide +kernel
theorem dX11_last_75 : decode cX11_last 75 = .ok (.lconst 0, 1) := by decide +kernel
theorem dX11_last_76 : decode cX11_last 76 = .ok (.lcmp, 1) := by decide +kernel
theorem dX11_last_77 : decode cX11_last 77 = .ok (.ifCond .ge 6, 3) := by decide +kernel
theorem dX11_last_83 : decode cX11_last 83 = .ok (.lload 6, 2) := by decide +kernel
theorem dX11_last_85 : decode cX11_last 85 = .ok (.iload_n 3, 1) := by decide +kernel
theorem dX11_last_86 : decode cX11_last 86 = .ok (.i2l, 1) := by decide +kernel
theorem dX11_last_87 : decode cX11_last 87 = .ok (.ladd, 1) := by decide +kernel
theorem dX11_last_88 : decode cX11_last 88 = .ok (.lstore 6, 2) := by decide +kernel
theorem dX11_last_90 : decode cX11_last 90 = .ok (.iinc 8 1, 3) := by decide +kernel
theorem dX11_last_93 : decode cX11_last 93 = .ok (.goto (-38), 3) := by decide +kernel
theorem dX11_last_33 : decode cX11_last 33 = .ok (.iconst (-1), 1) := by decide +kernel
theorem dX11_last_34 : decode cX11_last 34 = .ok (.ireturn, 1) := by decide +kernel
theorem dX11_last_80 : decode cX11_last 80 = .ok (.iload 8, 2) := by decide +kernel
theorem dX11_last_82 : decode cX11_last 82 = .ok (.ireturn, 1) := by decide +kernel
theorem dX12_last_0 : decode cX12_last 0 = .ok (.aload_n 0, 1) := by decide +kernel
theorem dX12_last_1 : decode cX12_last 1 = .ok (.iconst 0, 1) := by decide +kernel
theorem dX12_last_2 : decode cX12_last 2 = .ok (.putfield 82, 3) := by decide +kernel
theorem dX12_last_5 : decode cX12_last 5 = .ok (.iload_n 1, 1) := by decide +kernel
theorem dX12_last_6 : decode cX12_last 6 = .ok (.i2l, 1) := by decide +kernel
theorem dX12_last_7 : decode cX12_last 7 = .ok (.lconst 1, 1) := by decide +kernel
theorem dX12_last_8 : decode cX12_last 8 = .ok (.ldc2_w 159, 3) := by decide +kernel
theorem dX12_last_11 : decode cX12_last 11 = .ok (.invokestatic 90, 3) := by decide +kernel
theorem dX12_last_14 : decode cX12_last 14 = .ok (.ifCond .eq 27, 3) := by decide +kernel
theorem dX12_last_17 : decode cX12_last 17 = .ok (.iload_n 2, 1) := by decide +kernel
theorem dX12_last_18 : decode cX12_last 18 = .ok (.i2l, 1) := by decide +kernel
theorem dX12_last_19 : decode cX12_last 19 = .ok (.lconst 0, 1) := by decide +kernel
theorem dX12_last_20 : decode cX12_last 20 = .ok (.ldc2_w 128, 3) := by decide +kernel
theorem dX12_last_23 : decode cX12_last 23 = .ok (.invokestatic 90, 3) := by decide +kernel
theorem dX12_last_26 : decode cX12_last 26 = .ok (.ifCond .eq 15, 3) := by decide +kernel
theorem dX12_last_29 : decode cX12_last 29 = .ok (.iload_n 3, 1) := by decide +kernel
theorem dX12_last_30 : decode cX12_last 30 = .ok (.i2l, 1) := by decide +kernel
theorem dX12_last_31 : decode cX12_last 31 = .ok (.lconst 0, 1) := by decide +kernel
theorem dX12_last_32 : decode cX12_last 32 = .ok (.ldc2_w 128, 3) := by decide +kernel
theorem dX12_last_35 : decode cX12_last 35 = .ok (.invokestatic 90, 3) := by decide +kernel
theorem dX12_last_38 : decode cX12_last 38 = .ok (.ifCond .ne 5, 3) := by decide +kernel
theorem dX12_last_43 : decode cX12_last 43 = .ok (.aload_n 0, 1) := by decide +kernel
theorem dX12_last_44 : decode cX12_last 44 = .ok (.getfield 8, 3) := by decide +kernel
theorem dX12_last_47 : decode cX12_last 47 = .ok (.bipush 9, 2) := by decide +kernel
theorem dX12_last_49 : decode cX12_last 49 = .ok (.iaload, 1) := by decide +kernel
theorem dX12_last_50 : decode cX12_last 50 = .ok (.i2l, 1) := by decide +kernel
theorem dX12_last_51 : decode cX12_last 51 = .ok (.lstore 4, 2) := by decide +kernel
theorem dX12_last_53 : decode cX12_last 53 = .ok (.iconst 0, 1) := by decide +kernel
theorem dX12_last_54 : decode cX12_last 54 = .ok (.istore 6, 2) := by decide +kernel
theorem dX12_last_56 : decode cX12_last 56 = .ok (.iload 6, 2) := by decide +kernel
theorem dX12_last_58 : decode cX12_last 58 = .ok (.sipush 400, 3) := by decide +kernel
theorem dX12_last_61 : decode cX12_last 61 = .ok (.if_icmp .ge 40, 3) := by decide +kernel
theorem dX12_last_101 : decode cX12_last 101 = .ok (.iload 6, 2) := by decide +kernel
theorem dX12_last_103 : decode cX12_last 103 = .ok (.ireturn, 1) := by decide +kernel
theorem dX12_last_64 : decode cX12_last 64 = .ok (.lload 4, 2) := by decide +kernel
theorem dX12_last_66 : decode cX12_last 66 = .ok (.iload_n 1, 1) := by decide +kernel
theorem dX12_last_67 : decode cX12_last 67 = .ok (.i2l, 1) := by decide +kernel
theorem dX12_last_68 : decode cX12_last 68 = .ok (.iload_n 2, 1) := by decide +kernel
theorem dX12_last_69 : decode cX12_last 69 = .ok (.iload_n 3, 1) := by decide +kernel
theorem dX12_last_70 : decode cX12_last 70 = .ok (.iload 6, 2) := by decide +kernel
theorem dX12_last_72 : decode cX12_last 72 = .ok (.imul, 1) := by decide +kernel
theorem dX12_last_73 : decode cX12_last 73 = .ok (.iadd, 1) := by decide +kernel
theorem dX12_last_74 : decode cX12_last 74 = .ok (.i2l, 1) := by decide +kernel
theorem dX12_last_75 : decode cX12_last 75 = .ok (.lmul, 1) := by decide +kernel
theorem dX12_last_76 : decode cX12_last 76 = .ok (.lcmp, 1) := by decide +kernel
theorem dX12_last_77 : decode cX12_last 77 = .ok (.ifCond .lt 24, 3) := by decide +kernel
theorem dX12_last_80 : decode cX12_last 80 = .ok (.lload 4, 2) := by decide +kernel
theorem dX12_last_82 : decode cX12_last 82 = .ok (.iload_n 1, 1) := by decide +kernel
theorem dX12_last_83 : decode cX12_last 83 = .ok (.i2l, 1) := by decide +kernel
theorem dX12_last_84 : decode cX12_last 84 = .ok (.iload_n 2, 1) := by decide +kernel
theorem dX12_last_85 : decode cX12_last 85 = .ok (.iload_n 3, 1) := by decide +kernel
theorem dX12_last_86 : decode cX12_last 86 = .ok (.iload 6, 2) := by decide +kernel
theorem dX12_last_88 : decode cX12_last 88 = .ok (.imul, 1) := by decide +kernel
theorem dX12_last_89 : decode cX12_last 89 = .ok (.iadd, 1) := by decide +kernel
theorem dX12_last_90 : decode cX12_last 90 = .ok (.i2l, 1) := by decide +kernel
theorem dX12_last_91 : decode cX12_last 91 = .ok (.lmul, 1) := by decide +kernel
theorem dX12_last_92 : decode cX12_last 92 = .ok (.lsub, 1) := by decide +kernel
theorem dX12_last_93 : decode cX12_last 93 = .ok (.lstore 4, 2) := by decide +kernel
theorem dX12_last_95 : decode cX12_last 95 = .ok (.iinc 6 1, 3) := by decide +kernel
theorem dX12_last_98 : decode cX12_last 98 = .ok (.goto (-42), 3) := by decide +kernel
theorem dX12_last_41 : decode cX12_last 41 = .ok (.iconst (-1), 1) := by decide +kernel
theorem dX12_last_42 : decode cX12_last 42 = .ok (.ireturn, 1) := by decide +kernel
def d_X11_last : List Cond := [Cond.methodLink RX11 54 yX11_within, Cond.static yX11_within, Cond.initialized RX11, Cond.fieldLink RX11 12 "NoRent" "county" "LNoRent$County;", Cond.fieldLink RX11 98 "NoRent$County" "league" "LNoRent$League;", Cond.fieldLink RX11 102 "NoRent$League" "fund" "I"]
def v_X11_last : List Cond := Cond.code yX11_last cX11_last 9 (some .int) :: (d_X11_last ++ (v_X11_within ++ (wsX110 ++ (wsX00 ++ (wsX30 ++ ([] : List Cond))))))
theorem cm_X11_last_0 : ∀ w ∈ v_X11_within, w ∈ v_X11_last := fun _ h => List.mem_cons_of_mem _ (List.mem_append_right _ (List.mem_append_left _ h))
theorem cm_X11_last_1 : ∀ w ∈ wsX110, w ∈ v_X11_last := fun _ h => List.mem_cons_of_mem _ (List.mem_append_right _ (List.mem_append_right _ (List.mem_append_left _ h)))
theorem cm_X11_last_2 : ∀ w ∈ wsX00, w ∈ v_X11_last := fun _ h => List.mem_cons_of_mem _ (List.mem_append_right _ (List.mem_append_right _ (List.mem_append_right _ (List.mem_append_left _ h))))
theorem cm_X11_last_3 : ∀ w ∈ wsX30, w ∈ v_X11_last := fun _ h => List.mem_cons_of_mem _ (List.mem_append_right _ (List.mem_append_right _ (List.mem_append_right _ (List.mem_append_right _ (List.mem_append_left _ h)))))
theorem gd_X11_last : Gd v_X11_last := gd_mk (by decide +kernel) (gd_app gd_X11_within (gd_app gd_X11 (gd_app gd_X0 (gd_app gd_X3 gd_nil))))
set_option maxRecDepth 20000 in
theorem gv_X11_last_54_X11_within : GoodIn v_X11_last (va_wsS RX11 54 yX11_within v_X11_within) := goodIn_app (goodIn_of _ (by decide +kernel)) (gi cm_X11_last_0 gd_X11_within)

set_option maxHeartbeats 4000000 in
set_option maxRecDepth 100000 in
theorem c_X11_last_A (l : Launch) (G : va_G) (cI cJ cZ cD cR cT : ClassId) (h0 : Nat) (u1 : Int32) (h0_0 : Nat) (h0_1 : Nat) (h0_2 : Nat) (h0_3 : Nat) (h0_6 : Nat) (h0_7 : Nat) (h0_8 : Nat) (h0_10 : Nat) (h0_11 : Nat) (h0_13 : Nat) (h0_0_0 : Nat) (h0_0_1 : Nat) (h0_0_2 : Nat) (h0_0_3 : Nat) (h0_0_4 : Nat) (h0_0_5 : Nat) (h0_0_8 : Nat) (h0_0_15 : Nat) (h0_0_16 : Nat) (h0_0_5_4 : Nat) (h0_0_5_5 : Nat) (sz : Nat) : Met l yX11_last v_X11_last ({ frames := 12, cells := 0, slots := 0, locals := 900 }) (va_Pc [.ref h0, .int u1, .int 0, .int 0] (PreW G (tys6 cI cJ cZ cD cR cT) [(h0, .inr (11, [.ref h0_0, .ref h0_1, .ref h0_2, .ref h0_3, .int 0, .int 0, .ref h0_6, .ref h0_7, .ref h0_8, .int 0, .ref h0_10, .ref h0_11, .int 0, .ref h0_13, .int 0, .int 0])), (h0_0, .inr (0, [.ref h0_0_0, .ref h0_0_1, .ref h0_0_2, .ref h0_0_3, .ref h0_0_4, .ref h0_0_5, .int 0, .int 0, .ref h0_0_8, .int 0, .int 0, .int 0, .int 0, .long 0, .int 0, .ref h0_0_15, .ref h0_0_16])), (h0_0_5, .inr (3, [.int 0, .int 50, .int 0, .int 0, .ref h0_0_5_4, .ref h0_0_5_5]))] sz)) (QW (RI (fun r => r = F_last u1 0 0)) G (va_A [(h0, .inr (11, [.ref h0_0, .ref h0_1, .ref h0_2, .ref h0_3, .int 0, .int 0, .ref h0_6, .ref h0_7, .ref h0_8, .int 0, .ref h0_10, .ref h0_11, .int 0, .ref h0_13, .int 0, .int 0])), (h0_0, .inr (0, [.ref h0_0_0, .ref h0_0_1, .ref h0_0_2, .ref h0_0_3, .ref h0_0_4, .ref h0_0_5, .int 0, .int 0, .ref h0_0_8, .int 0, .int 0, .int 0, .int 0, .long 0, .int 0, .ref h0_0_15, .ref h0_0_16])), (h0_0_5, .inr (3, [.int 0, .int 50, .int 0, .int 0, .ref h0_0_5_4, .ref h0_0_5_5]))] sz) (fun q g => [])) 0 0 (va_A [(h0, .inr (11, [.ref h0_0, .ref h0_1, .ref h0_2, .ref h0_3, .int 0, .int 0, .ref h0_6, .ref h0_7, .ref h0_8, .int 0, .ref h0_10, .ref h0_11, .int 0, .ref h0_13, .int 0, .int 0])), (h0_0, .inr (0, [.ref h0_0_0, .ref h0_0_1, .ref h0_0_2, .ref h0_0_3, .ref h0_0_4, .ref h0_0_5, .int 0, .int 0, .ref h0_0_8, .int 0, .int 0, .int 0, .int 0, .long 0, .int 0, .ref h0_0_15, .ref h0_0_16])), (h0_0_5, .inr (3, [.int 0, .int 50, .int 0, .int 0, .ref h0_0_5_4, .ref h0_0_5_5]))] sz) := by
  refine metW (cc := cX11_last) (maxL := 9) (ret := (some .int)) (by decide) rfl (Nat.le_of_ble_eq_true rfl) ?_
  intro p e s m below meth c A ls hx hb hr hml hown hts hlocks hin hKK hP hD hA hS hl
  have hK := hKK.1
  have hown : s.vm.findClass RX11 = some m.cls := hown
  have hl : lv_has ls 9 [(0, .ref h0), (1, .int u1), (2, .int 0), (3, .int 0)] := hl
  have hP : va_P G vwCl [(h0, .inr (11, [.ref h0_0, .ref h0_1, .ref h0_2, .ref h0_3, .int 0, .int 0, .ref h0_6, .ref h0_7, .ref h0_8, .int 0, .ref h0_10, .ref h0_11, .int 0, .ref h0_13, .int 0, .int 0])), (h0_0, .inr (0, [.ref h0_0_0, .ref h0_0_1, .ref h0_0_2, .ref h0_0_3, .ref h0_0_4, .ref h0_0_5, .int 0, .int 0, .ref h0_0_8, .int 0, .int 0, .int 0, .int 0, .long 0, .int 0, .ref h0_0_15, .ref h0_0_16])), (h0_0_5, .inr (3, [.int 0, .int 50, .int 0, .int 0, .ref h0_0_5_4, .ref h0_0_5_5]))] s.heap := hP
  have hD : va_D A [(h0, .inr (11, [.ref h0_0, .ref h0_1, .ref h0_2, .ref h0_3, .int 0, .int 0, .ref h0_6, .ref h0_7, .ref h0_8, .int 0, .ref h0_10, .ref h0_11, .int 0, .ref h0_13, .int 0, .int 0])), (h0_0, .inr (0, [.ref h0_0_0, .ref h0_0_1, .ref h0_0_2, .ref h0_0_3, .ref h0_0_4, .ref h0_0_5, .int 0, .int 0, .ref h0_0_8, .int 0, .int 0, .int 0, .int 0, .long 0, .int 0, .ref h0_0_15, .ref h0_0_16])), (h0_0_5, .inr (3, [.int 0, .int 50, .int 0, .int 0, .ref h0_0_5_4, .ref h0_0_5_5]))] := hD
  refine lv_iload_n hx hb dX11_last_0 rfl (lv_at hl 1 rfl) ?_
  refine lv_iconst (v := 1) hx hb dX11_last_1 (by decide) ?_
  refine lv_sipush (v := 10000) hx hb dX11_last_2 (by decide) ?_
  refine goS (As := [.int u1, .int 1, .int 10000]) (rest := []) (wr := [(h0, .inr (11, [.ref h0_0, .ref h0_1, .ref h0_2, .ref h0_3, .int 0, .int 0, .ref h0_6, .ref h0_7, .ref h0_8, .int 0, .ref h0_10, .ref h0_11, .int 0, .ref h0_13, .int 0, .int 0])), (h0_0, .inr (0, [.ref h0_0_0, .ref h0_0_1, .ref h0_0_2, .ref h0_0_3, .ref h0_0_4, .ref h0_0_5, .int 0, .int 0, .ref h0_0_8, .int 0, .int 0, .int 0, .int 0, .long 0, .int 0, .ref h0_0_15, .ref h0_0_16])), (h0_0_5, .inr (3, [.int 0, .int 50, .int 0, .int 0, .ref h0_0_5_4, .ref h0_0_5_5]))]) ⟨hx, hb, hml, hown, hts⟩ (c_X11_within l G cI cJ cZ cD cR cT u1 1 10000 u1.toInt 1 10000 _ rfl (by decide) (by decide)) (va_cwS 3 hts gv_X11_last_54_X11_within rfl rfl rfl (by decide +kernel) ⟨Nat.le_of_ble_eq_true rfl, Nat.le_of_ble_eq_true rfl⟩) hKK hP hD hS hA [] [0, 1, 2] rfl rfl (by decide +kernel) (by decide +kernel) (by decide +kernel) rfl hl.1 rfl (lv_room (Nat.le_of_ble_eq_true rfl)) dX11_last_5 ⟨Nat.le_of_ble_eq_true rfl, Nat.le_of_ble_eq_true rfl⟩ (fun v2 q1 gq1 H locs hv2 => appW (ws' := [(h0, .inr (11, [.ref h0_0, .ref h0_1, .ref h0_2, .ref h0_3, .int 0, .int 0, .ref h0_6, .ref h0_7, .ref h0_8, .int 0, .ref h0_10, .ref h0_11, .int 0, .ref h0_13, .int 0, .int 0])), (h0_0, .inr (0, [.ref h0_0_0, .ref h0_0_1, .ref h0_0_2, .ref h0_0_3, .ref h0_0_4, .ref h0_0_5, .int 0, .int 0, .ref h0_0_8, .int 0, .int 0, .int 0, .int 0, .long 0, .int 0, .ref h0_0_15, .ref h0_0_16])), (h0_0_5, .inr (3, [.int 0, .int 50, .int 0, .int 0, .ref h0_0_5_4, .ref h0_0_5_5]))]) rfl (fun hP hD hS => ?_))
  obtain ⟨_, rfl, h4⟩ := hv2
  rcases h4 with ⟨rfl, h4⟩ | ⟨rfl, h4⟩
  · refine lv_if_eq (tgt := 33) hx hb dX11_last_8 (by decide) (fun c => absurd c (by decide)) (fun _ => ?_)
    refine lv_iload_n hx hb dX11_last_11 rfl (lv_at hl 2 rfl) ?_
    refine lv_iconst (v := 0) hx hb dX11_last_12 (by decide) ?_
    refine lv_sipush (v := 1000) hx hb dX11_last_13 (by decide) ?_
    refine goS (As := [.int 0, .int 0, .int 1000]) (rest := []) (wr := [(h0, .inr (11, [.ref h0_0, .ref h0_1, .ref h0_2, .ref h0_3, .int 0, .int 0, .ref h0_6, .ref h0_7, .ref h0_8, .int 0, .ref h0_10, .ref h0_11, .int 0, .ref h0_13, .int 0, .int 0])), (h0_0, .inr (0, [.ref h0_0_0, .ref h0_0_1, .ref h0_0_2, .ref h0_0_3, .ref h0_0_4, .ref h0_0_5, .int 0, .int 0, .ref h0_0_8, .int 0, .int 0, .int 0, .int 0, .long 0, .int 0, .ref h0_0_15, .ref h0_0_16])), (h0_0_5, .inr (3, [.int 0, .int 50, .int 0, .int 0, .ref h0_0_5_4, .ref h0_0_5_5]))]) ⟨hx, hb, hml, hown, hts⟩ (c_X11_within l G cI cJ cZ cD cR cT 0 0 1000 0 0 1000 _ (by decide) (by decide) (by decide)) (va_cwS 3 hts gv_X11_last_54_X11_within rfl rfl rfl (by decide +kernel) ⟨Nat.le_of_ble_eq_true rfl, Nat.le_of_ble_eq_true rfl⟩) hKK hP hD hS hA [] [0, 1, 2] rfl rfl (by decide +kernel) (by decide +kernel) (by decide +kernel) rfl hl.1 rfl (lv_room (Nat.le_of_ble_eq_true rfl)) dX11_last_16 ⟨Nat.le_of_ble_eq_true rfl, Nat.le_of_ble_eq_true rfl⟩ (fun v6 q5 gq5 H locs hv6 => appW (ws' := [(h0, .inr (11, [.ref h0_0, .ref h0_1, .ref h0_2, .ref h0_3, .int 0, .int 0, .ref h0_6, .ref h0_7, .ref h0_8, .int 0, .ref h0_10, .ref h0_11, .int 0, .ref h0_13, .int 0, .int 0])), (h0_0, .inr (0, [.ref h0_0_0, .ref h0_0_1, .ref h0_0_2, .ref h0_0_3, .ref h0_0_4, .ref h0_0_5, .int 0, .int 0, .ref h0_0_8, .int 0, .int 0, .int 0, .int 0, .long 0, .int 0, .ref h0_0_15, .ref h0_0_16])), (h0_0_5, .inr (3, [.int 0, .int 50, .int 0, .int 0, .ref h0_0_5_4, .ref h0_0_5_5]))]) rfl (fun hP hD hS => ?_))
    obtain ⟨_, rfl, h8⟩ := hv6
    rcases h8 with ⟨rfl, h8⟩ | ⟨rfl, h8⟩
    · refine lv_if_eq (tgt := 33) hx hb dX11_last_19 (by decide) (fun c => absurd c (by decide)) (fun _ => ?_)
      refine lv_iload_n hx hb dX11_last_22 rfl (lv_at hl 3 rfl) ?_
      refine lv_iconst (v := 0) hx hb dX11_last_23 (by decide) ?_
      refine lv_sipush (v := 1000) hx hb dX11_last_24 (by decide) ?_
      refine goS (As := [.int 0, .int 0, .int 1000]) (rest := []) (wr := [(h0, .inr (11, [.ref h0_0, .ref h0_1, .ref h0_2, .ref h0_3, .int 0, .int 0, .ref h0_6, .ref h0_7, .ref h0_8, .int 0, .ref h0_10, .ref h0_11, .int 0, .ref h0_13, .int 0, .int 0])), (h0_0, .inr (0, [.ref h0_0_0, .ref h0_0_1, .ref h0_0_2, .ref h0_0_3, .ref h0_0_4, .ref h0_0_5, .int 0, .int 0, .ref h0_0_8, .int 0, .int 0, .int 0, .int 0, .long 0, .int 0, .ref h0_0_15, .ref h0_0_16])), (h0_0_5, .inr (3, [.int 0, .int 50, .int 0, .int 0, .ref h0_0_5_4, .ref h0_0_5_5]))]) ⟨hx, hb, hml, hown, hts⟩ (c_X11_within l G cI cJ cZ cD cR cT 0 0 1000 0 0 1000 _ (by decide) (by decide) (by decide)) (va_cwS 3 hts gv_X11_last_54_X11_within rfl rfl rfl (by decide +kernel) ⟨Nat.le_of_ble_eq_true rfl, Nat.le_of_ble_eq_true rfl⟩) hKK hP hD hS hA [] [0, 1, 2] rfl rfl (by decide +kernel) (by decide +kernel) (by decide +kernel) rfl hl.1 rfl (lv_room (Nat.le_of_ble_eq_true rfl)) dX11_last_27 ⟨Nat.le_of_ble_eq_true rfl, Nat.le_of_ble_eq_true rfl⟩ (fun v10 q9 gq9 H locs hv10 => appW (ws' := [(h0, .inr (11, [.ref h0_0, .ref h0_1, .ref h0_2, .ref h0_3, .int 0, .int 0, .ref h0_6, .ref h0_7, .ref h0_8, .int 0, .ref h0_10, .ref h0_11, .int 0, .ref h0_13, .int 0, .int 0])), (h0_0, .inr (0, [.ref h0_0_0, .ref h0_0_1, .ref h0_0_2, .ref h0_0_3, .ref h0_0_4, .ref h0_0_5, .int 0, .int 0, .ref h0_0_8, .int 0, .int 0, .int 0, .int 0, .long 0, .int 0, .ref h0_0_15, .ref h0_0_16])), (h0_0_5, .inr (3, [.int 0, .int 50, .int 0, .int 0, .ref h0_0_5_4, .ref h0_0_5_5]))]) rfl (fun hP hD hS => ?_))
      obtain ⟨_, rfl, h12⟩ := hv10
      rcases h12 with ⟨rfl, h12⟩ | ⟨rfl, h12⟩
      · refine lv_if_ne (tgt := 35) hx hb dX11_last_30 (by decide) (fun _ => ?_) (fun c => absurd c (by decide))
        refine lv_aload_n hx hb dX11_last_35 rfl (lv_at hl 0 rfl) ?_
        refine va_get (D := G) (ci := 11) (v := .ref h0_0) (C := RX11) (T := TX11) (N := 16) hx hb hts cm_X11_last_1 hown hK hP 0 rfl rfl 0 (by decide) (hts _ (dmem (j := 3) rfl)) (fun _ h9 => h9) rfl dX11_last_36 ?_
        refine va_get (D := G) (ci := 0) (v := .ref h0_0_5) (C := RX0) (T := TX0) (N := 17) hx hb hts cm_X11_last_2 hown hK hP 1 rfl rfl 5 (by decide) (hts _ (dmem (j := 4) rfl)) (fun _ h9 => h9) rfl dX11_last_39 ?_
        refine va_get (D := G) (ci := 3) (v := .int 0) (C := RX3) (T := TX3) (N := 6) hx hb hts cm_X11_last_3 hown hK hP 2 rfl rfl 0 (by decide) (hts _ (dmem (j := 5) rfl)) (fun _ h9 => h9) rfl dX11_last_42 ?_
        refine lv_i2l (v := 0) hx hb dX11_last_45 (by decide) ?_
        refine lv_lstore (lv' := [(4, .long 0), (0, .ref h0), (1, .int u1), (2, .int 0), (3, .int 0)]) hx hb dX11_last_46 hl (by decide) rfl (fun ls hl => ?_)
        refine lv_iload_n hx hb dX11_last_48 rfl (lv_at hl 3 rfl) ?_
        refine lv_i2l (v := 0) hx hb dX11_last_49 (by decide) ?_
        refine lv_lstore (lv' := [(6, .long 0), (4, .long 0), (0, .ref h0), (1, .int u1), (2, .int 0), (3, .int 0)]) hx hb dX11_last_50 hl (by decide) rfl (fun ls hl => ?_)
        refine lv_iconst (v := 0) hx hb dX11_last_52 (by decide) ?_
        refine lv_istore (lv' := [(8, .int 0), (6, .long 0), (4, .long 0), (0, .ref h0), (1, .int u1), (2, .int 0), (3, .int 0)]) hx hb dX11_last_53 hl (by decide) rfl (fun ls hl => ?_)
        have loop55 : ∀ (n14 k13 : Nat), k13 + n14 = 400 → ∀ (H : Heap) (locs : List Loc) (ls : Array Slot), va_P G vwCl [(h0, .inr (11, [.ref h0_0, .ref h0_1, .ref h0_2, .ref h0_3, .int 0, .int 0, .ref h0_6, .ref h0_7, .ref h0_8, .int 0, .ref h0_10, .ref h0_11, .int 0, .ref h0_13, .int 0, .int 0])), (h0_0, .inr (0, [.ref h0_0_0, .ref h0_0_1, .ref h0_0_2, .ref h0_0_3, .ref h0_0_4, .ref h0_0_5, .int 0, .int 0, .ref h0_0_8, .int 0, .int 0, .int 0, .int 0, .long 0, .int 0, .ref h0_0_15, .ref h0_0_16])), (h0_0_5, .inr (3, [.int 0, .int 50, .int 0, .int 0, .ref h0_0_5_4, .ref h0_0_5_5]))] H → va_D A [(h0, .inr (11, [.ref h0_0, .ref h0_1, .ref h0_2, .ref h0_3, .int 0, .int 0, .ref h0_6, .ref h0_7, .ref h0_8, .int 0, .ref h0_10, .ref h0_11, .int 0, .ref h0_13, .int 0, .int 0])), (h0_0, .inr (0, [.ref h0_0_0, .ref h0_0_1, .ref h0_0_2, .ref h0_0_3, .ref h0_0_4, .ref h0_0_5, .int 0, .int 0, .ref h0_0_8, .int 0, .int 0, .int 0, .int 0, .long 0, .int 0, .ref h0_0_15, .ref h0_0_16])), (h0_0_5, .inr (3, [.int 0, .int 50, .int 0, .int 0, .ref h0_0_5_4, .ref h0_0_5_5]))] → va_S A s.heap H locs → lv_has ls 9 [(8, .int (nI k13)), (6, .long 0), (4, .long 0), (0, .ref h0), (1, .int u1), (2, .int 0), (3, .int 0)] → W p l e ({ frames := 12, cells := 0, slots := 0, locals := 900 }) s m ([.ref h0, .int u1, .int 0, .int 0] : List Value).toArray below meth c H locs 0 0 (MQ below (QW (RI (fun r => r = F_last u1 0 0)) G A (fun q g => [])) ([.ref h0, .int u1, .int 0, .int 0] : List Value).toArray s 0 0 A) (F0 m 55 ls []) := by
          intro n14
          induction n14 with
          | zero =>
            intro k13 hk  H locs ls hP hD hS hl
            obtain rfl : 400 = k13 := by omega
            have hl : lv_has ls 9 [(8, .int 400), (6, .long 0), (4, .long 0), (0, .ref h0), (1, .int u1), (2, .int 0), (3, .int 0)] := hl
            refine lv_iload hx hb dX11_last_55 (lv_at hl 0 rfl) ?_
            refine lv_sipush (v := 400) hx hb dX11_last_57 (by decide) ?_
            refine lv_icmp_ge (tgt := 96) hx hb dX11_last_60 (by decide) (fun _ => ?_) (fun c => absurd c (by decide))
            refine lv_sipush (v := 400) hx hb dX11_last_96 (by decide) ?_
            exact retI hx hb hr hlocks ⟨_, rfl, by have hz0 : (0 : Int32).toInt = 0 := rfl; have hz1 : (1 : Int32).toInt = 1 := rfl; unfold F_last; (repeat' split) <;> first | rfl | (exfalso; omega)⟩ hP hD hS (fun _ => 0) (fun _ _ => 0) [] (by decide +kernel) rfl dX11_last_99
          | succ n14 ih =>
            intro k13 hk  H locs ls hP hD hS hl
            have hkI : (nI k13).toInt = (k13 : Int) := nI_toInt (by omega)
            refine lv_iload hx hb dX11_last_55 (lv_at hl 0 rfl) ?_
            refine lv_sipush (v := 400) hx hb dX11_last_57 (by decide) ?_
            refine lv_icmp_ge (tgt := 96) hx hb dX11_last_60 (by decide) (fun c15 => ?_) (fun c15 => ?_)
            · have f16 : (400 : Int) ≤ (nI k13).toInt := Int32.le_iff_toInt_le.mp c15
              exfalso; omega
            · have f17 : ¬ ((400 : Int) ≤ (nI k13).toInt) := fun h => c15 (Int32.le_iff_toInt_le.mpr h)
              refine lv_lload hx hb dX11_last_63 (lv_at hl 2 rfl) ?_
              refine lv_iload_n hx hb dX11_last_65 rfl (lv_at hl 4 rfl) ?_
              refine lv_i2l hx hb dX11_last_66 rfl ?_
              refine lv_lload hx hb dX11_last_67 (lv_at hl 1 rfl) ?_
              refine lv_lmul hx hb dX11_last_69 ?_
              refine lv_topl (fun x18 ex18 => ?_)
              obtain rfl : 0 = x18 := (ex18.trans (by simp)).symm
              refine lv_lsub hx hb dX11_last_70 ?_
              refine lv_topl (fun x19 ex19 => ?_)
              obtain rfl : 0 = x19 := (ex19.trans (by decide)).symm
              refine lv_lstore (lv' := [(4, .long 0), (8, .int (nI k13)), (6, .long 0), (0, .ref h0), (1, .int u1), (2, .int 0), (3, .int 0)]) hx hb dX11_last_71 hl (by decide) rfl (fun ls hl => ?_)
              refine lv_lload hx hb dX11_last_73 (lv_at hl 0 rfl) ?_
              refine lv_lconst (v := 0) hx hb dX11_last_75 (by decide) ?_
              refine W.lcmp hx hb dX11_last_76 ?_
              refine lv_topi (fun x20 ex20 => ?_)
              obtain rfl : 0 = x20 := (ex20.trans (by decide)).symm
              refine lv_if_ge (tgt := 83) hx hb dX11_last_77 (by decide) (fun _ => ?_) (fun c => absurd c (by decide))
              refine lv_lload hx hb dX11_last_83 (lv_at hl 2 rfl) ?_
              refine lv_iload_n hx hb dX11_last_85 rfl (lv_at hl 6 rfl) ?_
              refine lv_i2l (v := 0) hx hb dX11_last_86 (by decide) ?_
              refine lv_ladd hx hb dX11_last_87 ?_
              refine lv_topl (fun x21 ex21 => ?_)
              obtain rfl : 0 = x21 := (ex21.trans (by decide)).symm
              refine lv_lstore (lv' := [(6, .long 0), (4, .long 0), (8, .int (nI k13)), (0, .ref h0), (1, .int u1), (2, .int 0), (3, .int 0)]) hx hb dX11_last_88 hl (by decide) rfl (fun ls hl => ?_)
              refine lv_iinc (v := (nI (k13 + 1))) (lv' := [(8, .int (nI (k13 + 1))), (6, .long 0), (4, .long 0), (0, .ref h0), (1, .int u1), (2, .int 0), (3, .int 0)]) hx hb dX11_last_90 hl (k := 2) rfl (nI_1 k13) (by decide) rfl (fun ls hl => ?_)
              refine lv_goto (tgt := 55) hx hb dX11_last_93 (by decide) ?_
              exact ih (k13 + 1) (by omega) _ _ _ hP hD hS (lv_sub hl [0, 1, 2, 3, 4, 5, 6] rfl)
        exact loop55 400 0 (by omega) _ _ _ hP hD hS hl
      · exfalso; omega
    · exfalso; omega
  · refine lv_if_eq (tgt := 33) hx hb dX11_last_8 (by decide) (fun _ => ?_) (fun c => absurd c (by decide))
    refine lv_iconst (v := (-1)) hx hb dX11_last_33 (by decide) ?_
    exact retI hx hb hr hlocks ⟨_, rfl, by have hz0 : (0 : Int32).toInt = 0 := rfl; have hz1 : (1 : Int32).toInt = 1 := rfl; unfold F_last; (repeat' split) <;> first | rfl | (exfalso; omega)⟩ hP hD hS (fun _ => 0) (fun _ _ => 0) [] (by decide +kernel) rfl dX11_last_34

set_option maxHeartbeats 4000000 in
set_option maxRecDepth 100000 in
theorem c_X11_last_B (l : Launch) (G : va_G) (cI cJ cZ cD cR cT : ClassId) (h0 : Nat) (u1 : Int32) (u3 : Int32) (h0_0 : Nat) (h0_1 : Nat) (h0_2 : Nat) (h0_3 : Nat) (h0_6 : Nat) (h0_7 : Nat) (h0_8 : Nat) (h0_10 : Nat) (h0_11 : Nat) (h0_13 : Nat) (h0_0_0 : Nat) (h0_0_1 : Nat) (h0_0_2 : Nat) (h0_0_3 : Nat) (h0_0_4 : Nat) (h0_0_5 : Nat) (h0_0_8 : Nat) (h0_0_15 : Nat) (h0_0_16 : Nat) (h0_0_5_4 : Nat) (h0_0_5_5 : Nat) (sz : Nat) (h3 : ¬ u3.toInt = 0) : Met l yX11_last v_X11_last ({ frames := 12, cells := 0, slots := 0, locals := 900 }) (va_Pc [.ref h0, .int u1, .int 0, .int u3] (PreW G (tys6 cI cJ cZ cD cR cT) [(h0, .inr (11, [.ref h0_0, .ref h0_1, .ref h0_2, .ref h0_3, .int 0, .int 0, .ref h0_6, .ref h0_7, .ref h0_8, .int 0, .ref h0_10, .ref h0_11, .int 0, .ref h0_13, .int 0, .int 0])), (h0_0, .inr (0, [.ref h0_0_0, .ref h0_0_1, .ref h0_0_2, .ref h0_0_3, .ref h0_0_4, .ref h0_0_5, .int 0, .int 0, .ref h0_0_8, .int 0, .int 0, .int 0, .int 0, .long 0, .int 0, .ref h0_0_15, .ref h0_0_16])), (h0_0_5, .inr (3, [.int 0, .int 50, .int 0, .int 0, .ref h0_0_5_4, .ref h0_0_5_5]))] sz)) (QW (RI (fun r => r = F_last u1 0 u3)) G (va_A [(h0, .inr (11, [.ref h0_0, .ref h0_1, .ref h0_2, .ref h0_3, .int 0, .int 0, .ref h0_6, .ref h0_7, .ref h0_8, .int 0, .ref h0_10, .ref h0_11, .int 0, .ref h0_13, .int 0, .int 0])), (h0_0, .inr (0, [.ref h0_0_0, .ref h0_0_1, .ref h0_0_2, .ref h0_0_3, .ref h0_0_4, .ref h0_0_5, .int 0, .int 0, .ref h0_0_8, .int 0, .int 0, .int 0, .int 0, .long 0, .int 0, .ref h0_0_15, .ref h0_0_16])), (h0_0_5, .inr (3, [.int 0, .int 50, .int 0, .int 0, .ref h0_0_5_4, .ref h0_0_5_5]))] sz) (fun q g => [])) 0 0 (va_A [(h0, .inr (11, [.ref h0_0, .ref h0_1, .ref h0_2, .ref h0_3, .int 0, .int 0, .ref h0_6, .ref h0_7, .ref h0_8, .int 0, .ref h0_10, .ref h0_11, .int 0, .ref h0_13, .int 0, .int 0])), (h0_0, .inr (0, [.ref h0_0_0, .ref h0_0_1, .ref h0_0_2, .ref h0_0_3, .ref h0_0_4, .ref h0_0_5, .int 0, .int 0, .ref h0_0_8, .int 0, .int 0, .int 0, .int 0, .long 0, .int 0, .ref h0_0_15, .ref h0_0_16])), (h0_0_5, .inr (3, [.int 0, .int 50, .int 0, .int 0, .ref h0_0_5_4, .ref h0_0_5_5]))] sz) := by
  refine metW (cc := cX11_last) (maxL := 9) (ret := (some .int)) (by decide) rfl (Nat.le_of_ble_eq_true rfl) ?_
  intro p e s m below meth c A ls hx hb hr hml hown hts hlocks hin hKK hP hD hA hS hl
  have hK := hKK.1
  have hown : s.vm.findClass RX11 = some m.cls := hown
  have hl : lv_has ls 9 [(0, .ref h0), (1, .int u1), (2, .int 0), (3, .int u3)] := hl
  have hP : va_P G vwCl [(h0, .inr (11, [.ref h0_0, .ref h0_1, .ref h0_2, .ref h0_3, .int 0, .int 0, .ref h0_6, .ref h0_7, .ref h0_8, .int 0, .ref h0_10, .ref h0_11, .int 0, .ref h0_13, .int 0, .int 0])), (h0_0, .inr (0, [.ref h0_0_0, .ref h0_0_1, .ref h0_0_2, .ref h0_0_3, .ref h0_0_4, .ref h0_0_5, .int 0, .int 0, .ref h0_0_8, .int 0, .int 0, .int 0, .int 0, .long 0, .int 0, .ref h0_0_15, .ref h0_0_16])), (h0_0_5, .inr (3, [.int 0, .int 50, .int 0, .int 0, .ref h0_0_5_4, .ref h0_0_5_5]))] s.heap := hP
  have hD : va_D A [(h0, .inr (11, [.ref h0_0, .ref h0_1, .ref h0_2, .ref h0_3, .int 0, .int 0, .ref h0_6, .ref h0_7, .ref h0_8, .int 0, .ref h0_10, .ref h0_11, .int 0, .ref h0_13, .int 0, .int 0])), (h0_0, .inr (0, [.ref h0_0_0, .ref h0_0_1, .ref h0_0_2, .ref h0_0_3, .ref h0_0_4, .ref h0_0_5, .int 0, .int 0, .ref h0_0_8, .int 0, .int 0, .int 0, .int 0, .long 0, .int 0, .ref h0_0_15, .ref h0_0_16])), (h0_0_5, .inr (3, [.int 0, .int 50, .int 0, .int 0, .ref h0_0_5_4, .ref h0_0_5_5]))] := hD
  refine lv_iload_n hx hb dX11_last_0 rfl (lv_at hl 1 rfl) ?_
  refine lv_iconst (v := 1) hx hb dX11_last_1 (by decide) ?_
  refine lv_sipush (v := 10000) hx hb dX11_last_2 (by decide) ?_
  refine goS (As := [.int u1, .int 1, .int 10000]) (rest := []) (wr := [(h0, .inr (11, [.ref h0_0, .ref h0_1, .ref h0_2, .ref h0_3, .int 0, .int 0, .ref h0_6, .ref h0_7, .ref h0_8, .int 0, .ref h0_10, .ref h0_11, .int 0, .ref h0_13, .int 0, .int 0])), (h0_0, .inr (0, [.ref h0_0_0, .ref h0_0_1, .ref h0_0_2, .ref h0_0_3, .ref h0_0_4, .ref h0_0_5, .int 0, .int 0, .ref h0_0_8, .int 0, .int 0, .int 0, .int 0, .long 0, .int 0, .ref h0_0_15, .ref h0_0_16])), (h0_0_5, .inr (3, [.int 0, .int 50, .int 0, .int 0, .ref h0_0_5_4, .ref h0_0_5_5]))]) ⟨hx, hb, hml, hown, hts⟩ (c_X11_within l G cI cJ cZ cD cR cT u1 1 10000 u1.toInt 1 10000 _ rfl (by decide) (by decide)) (va_cwS 3 hts gv_X11_last_54_X11_within rfl rfl rfl (by decide +kernel) ⟨Nat.le_of_ble_eq_true rfl, Nat.le_of_ble_eq_true rfl⟩) hKK hP hD hS hA [] [0, 1, 2] rfl rfl (by decide +kernel) (by decide +kernel) (by decide +kernel) rfl hl.1 rfl (lv_room (Nat.le_of_ble_eq_true rfl)) dX11_last_5 ⟨Nat.le_of_ble_eq_true rfl, Nat.le_of_ble_eq_true rfl⟩ (fun v2 q1 gq1 H locs hv2 => appW (ws' := [(h0, .inr (11, [.ref h0_0, .ref h0_1, .ref h0_2, .ref h0_3, .int 0, .int 0, .ref h0_6, .ref h0_7, .ref h0_8, .int 0, .ref h0_10, .ref h0_11, .int 0, .ref h0_13, .int 0, .int 0])), (h0_0, .inr (0, [.ref h0_0_0, .ref h0_0_1, .ref h0_0_2, .ref h0_0_3, .ref h0_0_4, .ref h0_0_5, .int 0, .int 0, .ref h0_0_8, .int 0, .int 0, .int 0, .int 0, .long 0, .int 0, .ref h0_0_15, .ref h0_0_16])), (h0_0_5, .inr (3, [.int 0, .int 50, .int 0, .int 0, .ref h0_0_5_4, .ref h0_0_5_5]))]) rfl (fun hP hD hS => ?_))
  obtain ⟨_, rfl, h4⟩ := hv2
  rcases h4 with ⟨rfl, h4⟩ | ⟨rfl, h4⟩
  · refine lv_if_eq (tgt := 33) hx hb dX11_last_8 (by decide) (fun c => absurd c (by decide)) (fun _ => ?_)
    refine lv_iload_n hx hb dX11_last_11 rfl (lv_at hl 2 rfl) ?_
    refine lv_iconst (v := 0) hx hb dX11_last_12 (by decide) ?_
    refine lv_sipush (v := 1000) hx hb dX11_last_13 (by decide) ?_
    refine goS (As := [.int 0, .int 0, .int 1000]) (rest := []) (wr := [(h0, .inr (11, [.ref h0_0, .ref h0_1, .ref h0_2, .ref h0_3, .int 0, .int 0, .ref h0_6, .ref h0_7, .ref h0_8, .int 0, .ref h0_10, .ref h0_11, .int 0, .ref h0_13, .int 0, .int 0])), (h0_0, .inr (0, [.ref h0_0_0, .ref h0_0_1, .ref h0_0_2, .ref h0_0_3, .ref h0_0_4, .ref h0_0_5, .int 0, .int 0, .ref h0_0_8, .int 0, .int 0, .int 0, .int 0, .long 0, .int 0, .ref h0_0_15, .ref h0_0_16])), (h0_0_5, .inr (3, [.int 0, .int 50, .int 0, .int 0, .ref h0_0_5_4, .ref h0_0_5_5]))]) ⟨hx, hb, hml, hown, hts⟩ (c_X11_within l G cI cJ cZ cD cR cT 0 0 1000 0 0 1000 _ (by decide) (by decide) (by decide)) (va_cwS 3 hts gv_X11_last_54_X11_within rfl rfl rfl (by decide +kernel) ⟨Nat.le_of_ble_eq_true rfl, Nat.le_of_ble_eq_true rfl⟩) hKK hP hD hS hA [] [0, 1, 2] rfl rfl (by decide +kernel) (by decide +kernel) (by decide +kernel) rfl hl.1 rfl (lv_room (Nat.le_of_ble_eq_true rfl)) dX11_last_16 ⟨Nat.le_of_ble_eq_true rfl, Nat.le_of_ble_eq_true rfl⟩ (fun v6 q5 gq5 H locs hv6 => appW (ws' := [(h0, .inr (11, [.ref h0_0, .ref h0_1, .ref h0_2, .ref h0_3, .int 0, .int 0, .ref h0_6, .ref h0_7, .ref h0_8, .int 0, .ref h0_10, .ref h0_11, .int 0, .ref h0_13, .int 0, .int 0])), (h0_0, .inr (0, [.ref h0_0_0, .ref h0_0_1, .ref h0_0_2, .ref h0_0_3, .ref h0_0_4, .ref h0_0_5, .int 0, .int 0, .ref h0_0_8, .int 0, .int 0, .int 0, .int 0, .long 0, .int 0, .ref h0_0_15, .ref h0_0_16])), (h0_0_5, .inr (3, [.int 0, .int 50, .int 0, .int 0, .ref h0_0_5_4, .ref h0_0_5_5]))]) rfl (fun hP hD hS => ?_))
    obtain ⟨_, rfl, h8⟩ := hv6
    rcases h8 with ⟨rfl, h8⟩ | ⟨rfl, h8⟩
    · refine lv_if_eq (tgt := 33) hx hb dX11_last_19 (by decide) (fun c => absurd c (by decide)) (fun _ => ?_)
      refine lv_iload_n hx hb dX11_last_22 rfl (lv_at hl 3 rfl) ?_
      refine lv_iconst (v := 0) hx hb dX11_last_23 (by decide) ?_
      refine lv_sipush (v := 1000) hx hb dX11_last_24 (by decide) ?_
      refine goS (As := [.int u3, .int 0, .int 1000]) (rest := []) (wr := [(h0, .inr (11, [.ref h0_0, .ref h0_1, .ref h0_2, .ref h0_3, .int 0, .int 0, .ref h0_6, .ref h0_7, .ref h0_8, .int 0, .ref h0_10, .ref h0_11, .int 0, .ref h0_13, .int 0, .int 0])), (h0_0, .inr (0, [.ref h0_0_0, .ref h0_0_1, .ref h0_0_2, .ref h0_0_3, .ref h0_0_4, .ref h0_0_5, .int 0, .int 0, .ref h0_0_8, .int 0, .int 0, .int 0, .int 0, .long 0, .int 0, .ref h0_0_15, .ref h0_0_16])), (h0_0_5, .inr (3, [.int 0, .int 50, .int 0, .int 0, .ref h0_0_5_4, .ref h0_0_5_5]))]) ⟨hx, hb, hml, hown, hts⟩ (c_X11_within l G cI cJ cZ cD cR cT u3 0 1000 u3.toInt 0 1000 _ rfl (by decide) (by decide)) (va_cwS 3 hts gv_X11_last_54_X11_within rfl rfl rfl (by decide +kernel) ⟨Nat.le_of_ble_eq_true rfl, Nat.le_of_ble_eq_true rfl⟩) hKK hP hD hS hA [] [0, 1, 2] rfl rfl (by decide +kernel) (by decide +kernel) (by decide +kernel) rfl hl.1 rfl (lv_room (Nat.le_of_ble_eq_true rfl)) dX11_last_27 ⟨Nat.le_of_ble_eq_true rfl, Nat.le_of_ble_eq_true rfl⟩ (fun v10 q9 gq9 H locs hv10 => appW (ws' := [(h0, .inr (11, [.ref h0_0, .ref h0_1, .ref h0_2, .ref h0_3, .int 0, .int 0, .ref h0_6, .ref h0_7, .ref h0_8, .int 0, .ref h0_10, .ref h0_11, .int 0, .ref h0_13, .int 0, .int 0])), (h0_0, .inr (0, [.ref h0_0_0, .ref h0_0_1, .ref h0_0_2, .ref h0_0_3, .ref h0_0_4, .ref h0_0_5, .int 0, .int 0, .ref h0_0_8, .int 0, .int 0, .int 0, .int 0, .long 0, .int 0, .ref h0_0_15, .ref h0_0_16])), (h0_0_5, .inr (3, [.int 0, .int 50, .int 0, .int 0, .ref h0_0_5_4, .ref h0_0_5_5]))]) rfl (fun hP hD hS => ?_))
      obtain ⟨_, rfl, h12⟩ := hv10
      rcases h12 with ⟨rfl, h12⟩ | ⟨rfl, h12⟩
      · refine lv_if_ne (tgt := 35) hx hb dX11_last_30 (by decide) (fun _ => ?_) (fun c => absurd c (by decide))
        refine lv_aload_n hx hb dX11_last_35 rfl (lv_at hl 0 rfl) ?_
        refine va_get (D := G) (ci := 11) (v := .ref h0_0) (C := RX11) (T := TX11) (N := 16) hx hb hts cm_X11_last_1 hown hK hP 0 rfl rfl 0 (by decide) (hts _ (dmem (j := 3) rfl)) (fun _ h9 => h9) rfl dX11_last_36 ?_
        refine va_get (D := G) (ci := 0) (v := .ref h0_0_5) (C := RX0) (T := TX0) (N := 17) hx hb hts cm_X11_last_2 hown hK hP 1 rfl rfl 5 (by decide) (hts _ (dmem (j := 4) rfl)) (fun _ h9 => h9) rfl dX11_last_39 ?_
        refine va_get (D := G) (ci := 3) (v := .int 0) (C := RX3) (T := TX3) (N := 6) hx hb hts cm_X11_last_3 hown hK hP 2 rfl rfl 0 (by decide) (hts _ (dmem (j := 5) rfl)) (fun _ h9 => h9) rfl dX11_last_42 ?_
        refine lv_i2l (v := 0) hx hb dX11_last_45 (by decide) ?_
        refine lv_lstore (lv' := [(4, .long 0), (0, .ref h0), (1, .int u1), (2, .int 0), (3, .int u3)]) hx hb dX11_last_46 hl (by decide) rfl (fun ls hl => ?_)
        refine lv_iload_n hx hb dX11_last_48 rfl (lv_at hl 3 rfl) ?_
        refine lv_i2l (v := 0) hx hb dX11_last_49 (by decide) ?_
        refine lv_lstore (lv' := [(6, .long 0), (4, .long 0), (0, .ref h0), (1, .int u1), (2, .int 0), (3, .int u3)]) hx hb dX11_last_50 hl (by decide) rfl (fun ls hl => ?_)
        refine lv_iconst (v := 0) hx hb dX11_last_52 (by decide) ?_
        refine lv_istore (lv' := [(8, .int 0), (6, .long 0), (4, .long 0), (0, .ref h0), (1, .int u1), (2, .int 0), (3, .int u3)]) hx hb dX11_last_53 hl (by decide) rfl (fun ls hl => ?_)
        refine lv_iload hx hb dX11_last_55 (lv_at hl 0 rfl) ?_
        refine lv_sipush (v := 400) hx hb dX11_last_57 (by decide) ?_
        refine lv_icmp_ge (tgt := 96) hx hb dX11_last_60 (by decide) (fun c => absurd c (by decide)) (fun _ => ?_)
        refine lv_lload hx hb dX11_last_63 (lv_at hl 2 rfl) ?_
        refine lv_iload_n hx hb dX11_last_65 rfl (lv_at hl 4 rfl) ?_
        refine lv_i2l hx hb dX11_last_66 rfl ?_
        refine lv_lload hx hb dX11_last_67 (lv_at hl 1 rfl) ?_
        refine lv_lmul hx hb dX11_last_69 ?_
        refine lv_topl (fun x13 ex13 => ?_)
        obtain rfl : 0 = x13 := (ex13.trans (by simp)).symm
        refine lv_lsub hx hb dX11_last_70 ?_
        refine lv_topl (fun x14 ex14 => ?_)
        obtain rfl : 0 = x14 := (ex14.trans (by decide)).symm
        refine lv_lstore (lv' := [(4, .long 0), (8, .int 0), (6, .long 0), (0, .ref h0), (1, .int u1), (2, .int 0), (3, .int u3)]) hx hb dX11_last_71 hl (by decide) rfl (fun ls hl => ?_)
        refine lv_lload hx hb dX11_last_73 (lv_at hl 0 rfl) ?_
        refine lv_lconst (v := 0) hx hb dX11_last_75 (by decide) ?_
        refine W.lcmp hx hb dX11_last_76 ?_
        refine lv_topi (fun x15 ex15 => ?_)
        obtain rfl : 0 = x15 := (ex15.trans (by decide)).symm
        refine lv_if_ge (tgt := 83) hx hb dX11_last_77 (by decide) (fun _ => ?_) (fun c => absurd c (by decide))
        refine lv_lload hx hb dX11_last_83 (lv_at hl 2 rfl) ?_
        refine lv_iload_n hx hb dX11_last_85 rfl (lv_at hl 6 rfl) ?_
        refine lv_i2l hx hb dX11_last_86 rfl ?_
        refine lv_ladd hx hb dX11_last_87 ?_
        refine lv_topl (fun x16 ex16 => ?_)
        obtain rfl : (u3).toInt64 = x16 := (ex16.trans (by simp)).symm
        refine lv_lstore (lv' := [(6, .long (u3).toInt64), (4, .long 0), (8, .int 0), (0, .ref h0), (1, .int u1), (2, .int 0), (3, .int u3)]) hx hb dX11_last_88 hl (by decide) rfl (fun ls hl => ?_)
        refine lv_iinc (v := 1) (lv' := [(8, .int 1), (6, .long (u3).toInt64), (4, .long 0), (0, .ref h0), (1, .int u1), (2, .int 0), (3, .int u3)]) hx hb dX11_last_90 hl (k := 2) rfl (by decide) (by decide) rfl (fun ls hl => ?_)
        refine lv_goto (tgt := 55) hx hb dX11_last_93 (by decide) ?_
        refine lv_iload hx hb dX11_last_55 (lv_at hl 0 rfl) ?_
        refine lv_sipush (v := 400) hx hb dX11_last_57 (by decide) ?_
        refine lv_icmp_ge (tgt := 96) hx hb dX11_last_60 (by decide) (fun c => absurd c (by decide)) (fun _ => ?_)
        refine lv_lload hx hb dX11_last_63 (lv_at hl 2 rfl) ?_
        refine lv_iload_n hx hb dX11_last_65 rfl (lv_at hl 4 rfl) ?_
        refine lv_i2l hx hb dX11_last_66 rfl ?_
        refine lv_lload hx hb dX11_last_67 (lv_at hl 1 rfl) ?_
        refine lv_lmul hx hb dX11_last_69 ?_
        refine lv_topl (fun x17 ex17 => ?_)
        have fx17 : 1 ≤ x17.toInt ∧ x17.toInt ≤ 10000000 := by rw [ex17]; exact mul64 (show Int64.toInt ((u1).toInt64) = u1.toInt from (Int32.toInt_toInt64 u1)) (show Int64.toInt ((u3).toInt64) = u3.toInt from (Int32.toInt_toInt64 u3)) (by omega) (by omega) (by omega) (by omega)
        refine lv_lsub hx hb dX11_last_70 ?_
        refine lv_topl (fun x18 ex18 => ?_)
        have fx18 : x18.toInt = 0 - x17.toInt := by rw [ex18]; exact sub64 (show Int64.toInt (0) = 0 from (by decide)) (rfl : Int64.toInt (x17) = x17.toInt) (by omega) (by omega)
        refine lv_lstore (lv' := [(4, .long x18), (8, .int 1), (6, .long (u3).toInt64), (0, .ref h0), (1, .int u1), (2, .int 0), (3, .int u3)]) hx hb dX11_last_71 hl (by decide) rfl (fun ls hl => ?_)
        refine lv_lload hx hb dX11_last_73 (lv_at hl 0 rfl) ?_
        refine lv_lconst (v := 0) hx hb dX11_last_75 (by decide) ?_
        refine W.lcmp hx hb dX11_last_76 ?_
        rcases lcmp_cases (x18) (0) with ⟨h19, fh19⟩ | ⟨h19, fh19⟩ | ⟨h19, fh19⟩ <;> rw [h19]
        · have f20 : (0 : Int) < x18.toInt := by have h1 := (rfl : Int64.toInt (x18) = x18.toInt); have h2 := (show Int64.toInt (0) = 0 from (by decide)); omega
          exfalso; omega
        · have f21 : (x18.toInt : Int) = 0 := by have h1 := (rfl : Int64.toInt (x18) = x18.toInt); have h2 := (show Int64.toInt (0) = 0 from (by decide)); omega
          exfalso; omega
        · have f22 : (x18.toInt : Int) < 0 := by have h1 := (rfl : Int64.toInt (x18) = x18.toInt); have h2 := (show Int64.toInt (0) = 0 from (by decide)); omega
          refine lv_if_ge (tgt := 83) hx hb dX11_last_77 (by decide) (fun c => absurd c (by decide)) (fun _ => ?_)
          refine lv_iload hx hb dX11_last_80 (lv_at hl 1 rfl) ?_
          exact retI hx hb hr hlocks ⟨_, rfl, by have hz0 : (0 : Int32).toInt = 0 := rfl; have hz1 : (1 : Int32).toInt = 1 := rfl; unfold F_last; (repeat' split) <;> first | rfl | (exfalso; omega)⟩ hP hD hS (fun _ => 0) (fun _ _ => 0) [] (by decide +kernel) rfl dX11_last_82
      · refine lv_if_ne (tgt := 35) hx hb dX11_last_30 (by decide) (fun c => absurd c (by decide)) (fun _ => ?_)
        refine lv_iconst (v := (-1)) hx hb dX11_last_33 (by decide) ?_
        exact retI hx hb hr hlocks ⟨_, rfl, by have hz0 : (0 : Int32).toInt = 0 := rfl; have hz1 : (1 : Int32).toInt = 1 := rfl; unfold F_last; (repeat' split) <;> first | rfl | (exfalso; omega)⟩ hP hD hS (fun _ => 0) (fun _ _ => 0) [] (by decide +kernel) rfl dX11_last_34
    · exfalso; omega
  · refine lv_if_eq (tgt := 33) hx hb dX11_last_8 (by decide) (fun _ => ?_) (fun c => absurd c (by decide))
    refine lv_iconst (v := (-1)) hx hb dX11_last_33 (by decide) ?_
    exact retI hx hb hr hlocks ⟨_, rfl, by have hz0 : (0 : Int32).toInt = 0 := rfl; have hz1 : (1 : Int32).toInt = 1 := rfl; unfold F_last; (repeat' split) <;> first | rfl | (exfalso; omega)⟩ hP hD hS (fun _ => 0) (fun _ _ => 0) [] (by decide +kernel) rfl dX11_last_34

set_option maxHeartbeats 4000000 in
set_option maxRecDepth 100000 in
theorem c_X11_last_C (l : Launch) (G : va_G) (cI cJ cZ cD cR cT : ClassId) (h0 : Nat) (u1 : Int32) (u2 : Int32) (u3 : Int32) (h0_0 : Nat) (h0_1 : Nat) (h0_2 : Nat) (h0_3 : Nat) (h0_6 : Nat) (h0_7 : Nat) (h0_8 : Nat) (h0_10 : Nat) (h0_11 : Nat) (h0_13 : Nat) (h0_0_0 : Nat) (h0_0_1 : Nat) (h0_0_2 : Nat) (h0_0_3 : Nat) (h0_0_4 : Nat) (h0_0_5 : Nat) (h0_0_8 : Nat) (h0_0_15 : Nat) (h0_0_16 : Nat) (h0_0_5_4 : Nat) (h0_0_5_5 : Nat) (sz : Nat) (h2 : ¬ u2.toInt = 0) : Met l yX11_last v_X11_last ({ frames := 12, cells := 0, slots := 0, locals := 900 }) (va_Pc [.ref h0, .int u1, .int u2, .int u3] (PreW G (tys6 cI cJ cZ cD cR cT) [(h0, .inr (11, [.ref h0_0, .ref h0_1, .ref h0_2, .ref h0_3, .int 0, .int 0, .ref h0_6, .ref h0_7, .ref h0_8, .int 0, .ref h0_10, .ref h0_11, .int 0, .ref h0_13, .int 0, .int 0])), (h0_0, .inr (0, [.ref h0_0_0, .ref h0_0_1, .ref h0_0_2, .ref h0_0_3, .ref h0_0_4, .ref h0_0_5, .int 0, .int 0, .ref h0_0_8, .int 0, .int 0, .int 0, .int 0, .long 0, .int 0, .ref h0_0_15, .ref h0_0_16])), (h0_0_5, .inr (3, [.int 0, .int 50, .int 0, .int 0, .ref h0_0_5_4, .ref h0_0_5_5]))] sz)) (QW (RI (fun r => r = F_last u1 u2 u3)) G (va_A [(h0, .inr (11, [.ref h0_0, .ref h0_1, .ref h0_2, .ref h0_3, .int 0, .int 0, .ref h0_6, .ref h0_7, .ref h0_8, .int 0, .ref h0_10, .ref h0_11, .int 0, .ref h0_13, .int 0, .int 0])), (h0_0, .inr (0, [.ref h0_0_0, .ref h0_0_1, .ref h0_0_2, .ref h0_0_3, .ref h0_0_4, .ref h0_0_5, .int 0, .int 0, .ref h0_0_8, .int 0, .int 0, .int 0, .int 0, .long 0, .int 0, .ref h0_0_15, .ref h0_0_16])), (h0_0_5, .inr (3, [.int 0, .int 50, .int 0, .int 0, .ref h0_0_5_4, .ref h0_0_5_5]))] sz) (fun q g => [])) 0 0 (va_A [(h0, .inr (11, [.ref h0_0, .ref h0_1, .ref h0_2, .ref h0_3, .int 0, .int 0, .ref h0_6, .ref h0_7, .ref h0_8, .int 0, .ref h0_10, .ref h0_11, .int 0, .ref h0_13, .int 0, .int 0])), (h0_0, .inr (0, [.ref h0_0_0, .ref h0_0_1, .ref h0_0_2, .ref h0_0_3, .ref h0_0_4, .ref h0_0_5, .int 0, .int 0, .ref h0_0_8, .int 0, .int 0, .int 0, .int 0, .long 0, .int 0, .ref h0_0_15, .ref h0_0_16])), (h0_0_5, .inr (3, [.int 0, .int 50, .int 0, .int 0, .ref h0_0_5_4, .ref h0_0_5_5]))] sz) := by
  refine metW (cc := cX11_last) (maxL := 9) (ret := (some .int)) (by decide) rfl (Nat.le_of_ble_eq_true rfl) ?_
  intro p e s m below meth c A ls hx hb hr hml hown hts hlocks hin hKK hP hD hA hS hl
  have hK := hKK.1
  have hown : s.vm.findClass RX11 = some m.cls := hown
  have hl : lv_has ls 9 [(0, .ref h0), (1, .int u1), (2, .int u2), (3, .int u3)] := hl
  have hP : va_P G vwCl [(h0, .inr (11, [.ref h0_0, .ref h0_1, .ref h0_2, .ref h0_3, .int 0, .int 0, .ref h0_6, .ref h0_7, .ref h0_8, .int 0, .ref h0_10, .ref h0_11, .int 0, .ref h0_13, .int 0, .int 0])), (h0_0, .inr (0, [.ref h0_0_0, .ref h0_0_1, .ref h0_0_2, .ref h0_0_3, .ref h0_0_4, .ref h0_0_5, .int 0, .int 0, .ref h0_0_8, .int 0, .int 0, .int 0, .int 0, .long 0, .int 0, .ref h0_0_15, .ref h0_0_16])), (h0_0_5, .inr (3, [.int 0, .int 50, .int 0, .int 0, .ref h0_0_5_4, .ref h0_0_5_5]))] s.heap := hP
  have hD : va_D A [(h0, .inr (11, [.ref h0_0, .ref h0_1, .ref h0_2, .ref h0_3, .int 0, .int 0, .ref h0_6, .ref h0_7, .ref h0_8, .int 0, .ref h0_10, .ref h0_11, .int 0, .ref h0_13, .int 0, .int 0])), (h0_0, .inr (0, [.ref h0_0_0, .ref h0_0_1, .ref h0_0_2, .ref h0_0_3, .ref h0_0_4, .ref h0_0_5, .int 0, .int 0, .ref h0_0_8, .int 0, .int 0, .int 0, .int 0, .long 0, .int 0, .ref h0_0_15, .ref h0_0_16])), (h0_0_5, .inr (3, [.int 0, .int 50, .int 0, .int 0, .ref h0_0_5_4, .ref h0_0_5_5]))] := hD
  refine lv_iload_n hx hb dX11_last_0 rfl (lv_at hl 1 rfl) ?_
  refine lv_iconst (v := 1) hx hb dX11_last_1 (by decide) ?_
  refine lv_sipush (v := 10000) hx hb dX11_last_2 (by decide) ?_
  refine goS (As := [.int u1, .int 1, .int 10000]) (rest := []) (wr := [(h0, .inr (11, [.ref h0_0, .ref h0_1, .ref h0_2, .ref h0_3, .int 0, .int 0, .ref h0_6, .ref h0_7, .ref h0_8, .int 0, .ref h0_10, .ref h0_11, .int 0, .ref h0_13, .int 0, .int 0])), (h0_0, .inr (0, [.ref h0_0_0, .ref h0_0_1, .ref h0_0_2, .ref h0_0_3, .ref h0_0_4, .ref h0_0_5, .int 0, .int 0, .ref h0_0_8, .int 0, .int 0, .int 0, .int 0, .long 0, .int 0, .ref h0_0_15, .ref h0_0_16])), (h0_0_5, .inr (3, [.int 0, .int 50, .int 0, .int 0, .ref h0_0_5_4, .ref h0_0_5_5]))]) ⟨hx, hb, hml, hown, hts⟩ (c_X11_within l G cI cJ cZ cD cR cT u1 1 10000 u1.toInt 1 10000 _ rfl (by decide) (by decide)) (va_cwS 3 hts gv_X11_last_54_X11_within rfl rfl rfl (by decide +kernel) ⟨Nat.le_of_ble_eq_true rfl, Nat.le_of_ble_eq_true rfl⟩) hKK hP hD hS hA [] [0, 1, 2] rfl rfl (by decide +kernel) (by decide +kernel) (by decide +kernel) rfl hl.1 rfl (lv_room (Nat.le_of_ble_eq_true rfl)) dX11_last_5 ⟨Nat.le_of_ble_eq_true rfl, Nat.le_of_ble_eq_true rfl⟩ (fun v2 q1 gq1 H locs hv2 => appW (ws' := [(h0, .inr (11, [.ref h0_0, .ref h0_1, .ref h0_2, .ref h0_3, .int 0, .int 0, .ref h0_6, .ref h0_7, .ref h0_8, .int 0, .ref h0_10, .ref h0_11, .int 0, .ref h0_13, .int 0, .int 0])), (h0_0, .inr (0, [.ref h0_0_0, .ref h0_0_1, .ref h0_0_2, .ref h0_0_3, .ref h0_0_4, .ref h0_0_5, .int 0, .int 0, .ref h0_0_8, .int 0, .int 0, .int 0, .int 0, .long 0, .int 0, .ref h0_0_15, .ref h0_0_16])), (h0_0_5, .inr (3, [.int 0, .int 50, .int 0, .int 0, .ref h0_0_5_4, .ref h0_0_5_5]))]) rfl (fun hP hD hS => ?_))
  obtain ⟨_, rfl, h4⟩ := hv2
  rcases h4 with ⟨rfl, h4⟩ | ⟨rfl, h4⟩
  · refine lv_if_eq (tgt := 33) hx hb dX11_last_8 (by decide) (fun c => absurd c (by decide)) (fun _ => ?_)
    refine lv_iload_n hx hb dX11_last_11 rfl (lv_at hl 2 rfl) ?_
    refine lv_iconst (v := 0) hx hb dX11_last_12 (by decide) ?_
    refine lv_sipush (v := 1000) hx hb dX11_last_13 (by decide) ?_
    refine goS (As := [.int u2, .int 0, .int 1000]) (rest := []) (wr := [(h0, .inr (11, [.ref h0_0, .ref h0_1, .ref h0_2, .ref h0_3, .int 0, .int 0, .ref h0_6, .ref h0_7, .ref h0_8, .int 0, .ref h0_10, .ref h0_11, .int 0, .ref h0_13, .int 0, .int 0])), (h0_0, .inr (0, [.ref h0_0_0, .ref h0_0_1, .ref h0_0_2, .ref h0_0_3, .ref h0_0_4, .ref h0_0_5, .int 0, .int 0, .ref h0_0_8, .int 0, .int 0, .int 0, .int 0, .long 0, .int 0, .ref h0_0_15, .ref h0_0_16])), (h0_0_5, .inr (3, [.int 0, .int 50, .int 0, .int 0, .ref h0_0_5_4, .ref h0_0_5_5]))]) ⟨hx, hb, hml, hown, hts⟩ (c_X11_within l G cI cJ cZ cD cR cT u2 0 1000 u2.toInt 0 1000 _ rfl (by decide) (by decide)) (va_cwS 3 hts gv_X11_last_54_X11_within rfl rfl rfl (by decide +kernel) ⟨Nat.le_of_ble_eq_true rfl, Nat.le_of_ble_eq_true rfl⟩) hKK hP hD hS hA [] [0, 1, 2] rfl rfl (by decide +kernel) (by decide +kernel) (by decide +kernel) rfl hl.1 rfl (lv_room (Nat.le_of_ble_eq_true rfl)) dX11_last_16 ⟨Nat.le_of_ble_eq_true rfl, Nat.le_of_ble_eq_true rfl⟩ (fun v6 q5 gq5 H locs hv6 => appW (ws' := [(h0, .inr (11, [.ref h0_0, .ref h0_1, .ref h0_2, .ref h0_3, .int 0, .int 0, .ref h0_6, .ref h0_7, .ref h0_8, .int 0, .ref h0_10, .ref h0_11, .int 0, .ref h0_13, .int 0, .int 0])), (h0_0, .inr (0, [.ref h0_0_0, .ref h0_0_1, .ref h0_0_2, .ref h0_0_3, .ref h0_0_4, .ref h0_0_5, .int 0, .int 0, .ref h0_0_8, .int 0, .int 0, .int 0, .int 0, .long 0, .int 0, .ref h0_0_15, .ref h0_0_16])), (h0_0_5, .inr (3, [.int 0, .int 50, .int 0, .int 0, .ref h0_0_5_4, .ref h0_0_5_5]))]) rfl (fun hP hD hS => ?_))
    obtain ⟨_, rfl, h8⟩ := hv6
    rcases h8 with ⟨rfl, h8⟩ | ⟨rfl, h8⟩
    · refine lv_if_eq (tgt := 33) hx hb dX11_last_19 (by decide) (fun c => absurd c (by decide)) (fun _ => ?_)
      refine lv_iload_n hx hb dX11_last_22 rfl (lv_at hl 3 rfl) ?_
      refine lv_iconst (v := 0) hx hb dX11_last_23 (by decide) ?_
      refine lv_sipush (v := 1000) hx hb dX11_last_24 (by decide) ?_
      refine goS (As := [.int u3, .int 0, .int 1000]) (rest := []) (wr := [(h0, .inr (11, [.ref h0_0, .ref h0_1, .ref h0_2, .ref h0_3, .int 0, .int 0, .ref h0_6, .ref h0_7, .ref h0_8, .int 0, .ref h0_10, .ref h0_11, .int 0, .ref h0_13, .int 0, .int 0])), (h0_0, .inr (0, [.ref h0_0_0, .ref h0_0_1, .ref h0_0_2, .ref h0_0_3, .ref h0_0_4, .ref h0_0_5, .int 0, .int 0, .ref h0_0_8, .int 0, .int 0, .int 0, .int 0, .long 0, .int 0, .ref h0_0_15, .ref h0_0_16])), (h0_0_5, .inr (3, [.int 0, .int 50, .int 0, .int 0, .ref h0_0_5_4, .ref h0_0_5_5]))]) ⟨hx, hb, hml, hown, hts⟩ (c_X11_within l G cI cJ cZ cD cR cT u3 0 1000 u3.toInt 0 1000 _ rfl (by decide) (by decide)) (va_cwS 3 hts gv_X11_last_54_X11_within rfl rfl rfl (by decide +kernel) ⟨Nat.le_of_ble_eq_true rfl, Nat.le_of_ble_eq_true rfl⟩) hKK hP hD hS hA [] [0, 1, 2] rfl rfl (by decide +kernel) (by decide +kernel) (by decide +kernel) rfl hl.1 rfl (lv_room (Nat.le_of_ble_eq_true rfl)) dX11_last_27 ⟨Nat.le_of_ble_eq_true rfl, Nat.le_of_ble_eq_true rfl⟩ (fun v10 q9 gq9 H locs hv10 => appW (ws' := [(h0, .inr (11, [.ref h0_0, .ref h0_1, .ref h0_2, .ref h0_3, .int 0, .int 0, .ref h0_6, .ref h0_7, .ref h0_8, .int 0, .ref h0_10, .ref h0_11, .int 0, .ref h0_13, .int 0, .int 0])), (h0_0, .inr (0, [.ref h0_0_0, .ref h0_0_1, .ref h0_0_2, .ref h0_0_3, .ref h0_0_4, .ref h0_0_5, .int 0, .int 0, .ref h0_0_8, .int 0, .int 0, .int 0, .int 0, .long 0, .int 0, .ref h0_0_15, .ref h0_0_16])), (h0_0_5, .inr (3, [.int 0, .int 50, .int 0, .int 0, .ref h0_0_5_4, .ref h0_0_5_5]))]) rfl (fun hP hD hS => ?_))
      obtain ⟨_, rfl, h12⟩ := hv10
      rcases h12 with ⟨rfl, h12⟩ | ⟨rfl, h12⟩
      · refine lv_if_ne (tgt := 35) hx hb dX11_last_30 (by decide) (fun _ => ?_) (fun c => absurd c (by decide))
        refine lv_aload_n hx hb dX11_last_35 rfl (lv_at hl 0 rfl) ?_
        refine va_get (D := G) (ci := 11) (v := .ref h0_0) (C := RX11) (T := TX11) (N := 16) hx hb hts cm_X11_last_1 hown hK hP 0 rfl rfl 0 (by decide) (hts _ (dmem (j := 3) rfl)) (fun _ h9 => h9) rfl dX11_last_36 ?_
        refine va_get (D := G) (ci := 0) (v := .ref h0_0_5) (C := RX0) (T := TX0) (N := 17) hx hb hts cm_X11_last_2 hown hK hP 1 rfl rfl 5 (by decide) (hts _ (dmem (j := 4) rfl)) (fun _ h9 => h9) rfl dX11_last_39 ?_
        refine va_get (D := G) (ci := 3) (v := .int 0) (C := RX3) (T := TX3) (N := 6) hx hb hts cm_X11_last_3 hown hK hP 2 rfl rfl 0 (by decide) (hts _ (dmem (j := 5) rfl)) (fun _ h9 => h9) rfl dX11_last_42 ?_
        refine lv_i2l (v := 0) hx hb dX11_last_45 (by decide) ?_
        refine lv_lstore (lv' := [(4, .long 0), (0, .ref h0), (1, .int u1), (2, .int u2), (3, .int u3)]) hx hb dX11_last_46 hl (by decide) rfl (fun ls hl => ?_)
        refine lv_iload_n hx hb dX11_last_48 rfl (lv_at hl 3 rfl) ?_
        refine lv_i2l hx hb dX11_last_49 rfl ?_
        refine lv_lstore (lv' := [(6, .long (u2).toInt64), (4, .long 0), (0, .ref h0), (1, .int u1), (2, .int u2), (3, .int u3)]) hx hb dX11_last_50 hl (by decide) rfl (fun ls hl => ?_)
        refine lv_iconst (v := 0) hx hb dX11_last_52 (by decide) ?_
        refine lv_istore (lv' := [(8, .int 0), (6, .long (u2).toInt64), (4, .long 0), (0, .ref h0), (1, .int u1), (2, .int u2), (3, .int u3)]) hx hb dX11_last_53 hl (by decide) rfl (fun ls hl => ?_)
        refine lv_iload hx hb dX11_last_55 (lv_at hl 0 rfl) ?_
        refine lv_sipush (v := 400) hx hb dX11_last_57 (by decide) ?_
        refine lv_icmp_ge (tgt := 96) hx hb dX11_last_60 (by decide) (fun c => absurd c (by decide)) (fun _ => ?_)
        refine lv_lload hx hb dX11_last_63 (lv_at hl 2 rfl) ?_
        refine lv_iload_n hx hb dX11_last_65 rfl (lv_at hl 4 rfl) ?_
        refine lv_i2l hx hb dX11_last_66 rfl ?_
        refine lv_lload hx hb dX11_last_67 (lv_at hl 1 rfl) ?_
        refine lv_lmul hx hb dX11_last_69 ?_
        refine lv_topl (fun x13 ex13 => ?_)
        have fx13 : 1 ≤ x13.toInt ∧ x13.toInt ≤ 10000000 := by rw [ex13]; exact mul64 (show Int64.toInt ((u1).toInt64) = u1.toInt from (Int32.toInt_toInt64 u1)) (show Int64.toInt ((u2).toInt64) = u2.toInt from (Int32.toInt_toInt64 u2)) (by omega) (by omega) (by omega) (by omega)
        refine lv_lsub hx hb dX11_last_70 ?_
        refine lv_topl (fun x14 ex14 => ?_)
        have fx14 : x14.toInt = 0 - x13.toInt := by rw [ex14]; exact sub64 (show Int64.toInt (0) = 0 from (by decide)) (rfl : Int64.toInt (x13) = x13.toInt) (by omega) (by omega)
        refine lv_lstore (lv' := [(4, .long x14), (8, .int 0), (6, .long (u2).toInt64), (0, .ref h0), (1, .int u1), (2, .int u2), (3, .int u3)]) hx hb dX11_last_71 hl (by decide) rfl (fun ls hl => ?_)
        refine lv_lload hx hb dX11_last_73 (lv_at hl 0 rfl) ?_
        refine lv_lconst (v := 0) hx hb dX11_last_75 (by decide) ?_
        refine W.lcmp hx hb dX11_last_76 ?_
        rcases lcmp_cases (x14) (0) with ⟨h15, fh15⟩ | ⟨h15, fh15⟩ | ⟨h15, fh15⟩ <;> rw [h15]
        · have f16 : (0 : Int) < x14.toInt := by have h1 := (rfl : Int64.toInt (x14) = x14.toInt); have h2 := (show Int64.toInt (0) = 0 from (by decide)); omega
          exfalso; omega
        · have f17 : (x14.toInt : Int) = 0 := by have h1 := (rfl : Int64.toInt (x14) = x14.toInt); have h2 := (show Int64.toInt (0) = 0 from (by decide)); omega
          exfalso; omega
        · have f18 : (x14.toInt : Int) < 0 := by have h1 := (rfl : Int64.toInt (x14) = x14.toInt); have h2 := (show Int64.toInt (0) = 0 from (by decide)); omega
          refine lv_if_ge (tgt := 83) hx hb dX11_last_77 (by decide) (fun c => absurd c (by decide)) (fun _ => ?_)
          refine lv_iload hx hb dX11_last_80 (lv_at hl 1 rfl) ?_
          exact retI hx hb hr hlocks ⟨_, rfl, by have hz0 : (0 : Int32).toInt = 0 := rfl; have hz1 : (1 : Int32).toInt = 1 := rfl; unfold F_last; (repeat' split) <;> first | rfl | (exfalso; omega)⟩ hP hD hS (fun _ => 0) (fun _ _ => 0) [] (by decide +kernel) rfl dX11_last_82
      · refine lv_if_ne (tgt := 35) hx hb dX11_last_30 (by decide) (fun c => absurd c (by decide)) (fun _ => ?_)
        refine lv_iconst (v := (-1)) hx hb dX11_last_33 (by decide) ?_
        exact retI hx hb hr hlocks ⟨_, rfl, by have hz0 : (0 : Int32).toInt = 0 := rfl; have hz1 : (1 : Int32).toInt = 1 := rfl; unfold F_last; (repeat' split) <;> first | rfl | (exfalso; omega)⟩ hP hD hS (fun _ => 0) (fun _ _ => 0) [] (by decide +kernel) rfl dX11_last_34
    · refine lv_if_eq (tgt := 33) hx hb dX11_last_19 (by decide) (fun _ => ?_) (fun c => absurd c (by decide))
      refine lv_iconst (v := (-1)) hx hb dX11_last_33 (by decide) ?_
      exact retI hx hb hr hlocks ⟨_, rfl, by have hz0 : (0 : Int32).toInt = 0 := rfl; have hz1 : (1 : Int32).toInt = 1 := rfl; unfold F_last; (repeat' split) <;> first | rfl | (exfalso; omega)⟩ hP hD hS (fun _ => 0) (fun _ _ => 0) [] (by decide +kernel) rfl dX11_last_34
  · refine lv_if_eq (tgt := 33) hx hb dX11_last_8 (by decide) (fun _ => ?_) (fun c => absurd c (by decide))
    refine lv_iconst (v := (-1)) hx hb dX11_last_33 (by decide) ?_
    exact retI hx hb hr hlocks ⟨_, rfl, by have hz0 : (0 : Int32).toInt = 0 := rfl; have hz1 : (1 : Int32).toInt = 1 := rfl; unfold F_last; (repeat' split) <;> first | rfl | (exfalso; omega)⟩ hP hD hS (fun _ => 0) (fun _ _ => 0) [] (by decide +kernel) rfl dX11_last_34
set_option maxHeartbeats 4000000 in
set_option maxRecDepth 100000 in
theorem c_X11_last (l : Launch) (G : va_G) (cI cJ cZ cD cR cT : ClassId) (h0 : Nat) (u1 : Int32) (u2 : Int32) (u3 : Int32) (h0_0 : Nat) (h0_1 : Nat) (h0_2 : Nat) (h0_3 : Nat) (h0_6 : Nat) (h0_7 : Nat) (h0_8 : Nat) (h0_10 : Nat) (h0_11 : Nat) (h0_13 : Nat) (h0_0_0 : Nat) (h0_0_1 : Nat) (h0_0_2 : Nat) (h0_0_3 : Nat) (h0_0_4 : Nat) (h0_0_5 : Nat) (h0_0_8 : Nat) (h0_0_15 : Nat) (h0_0_16 : Nat) (h0_0_5_4 : Nat) (h0_0_5_5 : Nat) (sz : Nat) : Met l yX11_last v_X11_last ({ frames := 12, cells := 0, slots := 0, locals := 900 }) (va_Pc [.ref h0, .int u1, .int u2, .int u3] (PreW G (tys6 cI cJ cZ cD cR cT) [(h0, .inr (11, [.ref h0_0, .ref h0_1, .ref h0_2, .ref h0_3, .int 0, .int 0, .ref h0_6, .ref h0_7, .ref h0_8, .int 0, .ref h0_10, .ref h0_11, .int 0, .ref h0_13, .int 0, .int 0])), (h0_0, .inr (0, [.ref h0_0_0, .ref h0_0_1, .ref h0_0_2, .ref h0_0_3, .ref h0_0_4, .ref h0_0_5, .int 0, .int 0, .ref h0_0_8, .int 0, .int 0, .int 0, .int 0, .long 0, .int 0, .ref h0_0_15, .ref h0_0_16])), (h0_0_5, .inr (3, [.int 0, .int 50, .int 0, .int 0, .ref h0_0_5_4, .ref h0_0_5_5]))] sz)) (QW (RI (fun r => r = F_last u1 u2 u3)) G (va_A [(h0, .inr (11, [.ref h0_0, .ref h0_1, .ref h0_2, .ref h0_3, .int 0, .int 0, .ref h0_6, .ref h0_7, .ref h0_8, .int 0, .ref h0_10, .ref h0_11, .int 0, .ref h0_13, .int 0, .int 0])), (h0_0, .inr (0, [.ref h0_0_0, .ref h0_0_1, .ref h0_0_2, .ref h0_0_3, .ref h0_0_4, .ref h0_0_5, .int 0, .int 0, .ref h0_0_8, .int 0, .int 0, .int 0, .int 0, .long 0, .int 0, .ref h0_0_15, .ref h0_0_16])), (h0_0_5, .inr (3, [.int 0, .int 50, .int 0, .int 0, .ref h0_0_5_4, .ref h0_0_5_5]))] sz) (fun q g => [])) 0 0 (va_A [(h0, .inr (11, [.ref h0_0, .ref h0_1, .ref h0_2, .ref h0_3, .int 0, .int 0, .ref h0_6, .ref h0_7, .ref h0_8, .int 0, .ref h0_10, .ref h0_11, .int 0, .ref h0_13, .int 0, .int 0])), (h0_0, .inr (0, [.ref h0_0_0, .ref h0_0_1, .ref h0_0_2, .ref h0_0_3, .ref h0_0_4, .ref h0_0_5, .int 0, .int 0, .ref h0_0_8, .int 0, .int 0, .int 0, .int 0, .long 0, .int 0, .ref h0_0_15, .ref h0_0_16])), (h0_0_5, .inr (3, [.int 0, .int 50, .int 0, .int 0, .ref h0_0_5_4, .ref h0_0_5_5]))] sz) := by
  by_cases h2 : u2.toInt = 0
  · have e2 : u2 = 0 := Int32.toInt_inj.mp (h2.trans rfl)
    subst e2
    by_cases h3 : u3.toInt = 0
    · have e3 : u3 = 0 := Int32.toInt_inj.mp (h3.trans rfl)
      subst e3
      exact c_X11_last_A l G cI cJ cZ cD cR cT h0 u1 h0_0 h0_1 h0_2 h0_3 h0_6 h0_7 h0_8 h0_10 h0_11 h0_13 h0_0_0 h0_0_1 h0_0_2 h0_0_3 h0_0_4 h0_0_5 h0_0_8 h0_0_15 h0_0_16 h0_0_5_4 h0_0_5_5 sz
    · exact c_X11_last_B l G cI cJ cZ cD cR cT h0 u1 u3 h0_0 h0_1 h0_2 h0_3 h0_6 h0_7 h0_8 h0_10 h0_11 h0_13 h0_0_0 h0_0_1 h0_0_2 h0_0_3 h0_0_4 h0_0_5 h0_0_8 h0_0_15 h0_0_16 h0_0_5_4 h0_0_5_5 sz h3
  · exact c_X11_last_C l G cI cJ cZ cD cR cT h0 u1 u2 u3 h0_0 h0_1 h0_2 h0_3 h0_6 h0_7 h0_8 h0_10 h0_11 h0_13 h0_0_0 h0_0_1 h0_0_2 h0_0_3 h0_0_4 h0_0_5 h0_0_8 h0_0_15 h0_0_16 h0_0_5_4 h0_0_5_5 sz h2
def d_X12_last : List Cond := [Cond.fieldLink RX12 82 "NoRentModel" "thrown" "I", Cond.constantLong RX12 159 (10000), Cond.methodLink RX12 90 yX12_in, Cond.static yX12_in, Cond.initialized RX12, Cond.constantLong RX12 128 (1000), Cond.fieldLink RX12 8 "NoRentModel" "row" "[I"]
def v_X12_last : List Cond := Cond.code yX12_last cX12_last 7 (some .int) :: (d_X12_last ++ (wsX120 ++ (v_X12_in ++ ([] : List Cond))))
theorem cm_X12_last_0 : ∀ w ∈ wsX120, w ∈ v_X12_last := fun _ h => List.mem_cons_of_mem _ (List.mem_append_right _ (List.mem_append_left _ h))
theorem cm_X12_last_1 : ∀ w ∈ v_X12_in, w ∈ v_X12_last := fun _ h => List.mem_cons_of_mem _ (List.mem_append_right _ (List.mem_append_right _ (List.mem_append_left _ h)))
theorem gd_X12_last : Gd v_X12_last := gd_mk (by decide +kernel) (gd_app gd_X12 (gd_app gd_X12_in gd_nil))
set_option maxRecDepth 20000 in
theorem gv_X12_last_90_X12_in : GoodIn v_X12_last (va_wsS RX12 90 yX12_in v_X12_in) := goodIn_app (goodIn_of _ (by decide +kernel)) (gi cm_X12_last_1 gd_X12_in)

set_option maxHeartbeats 4000000 in
set_option maxRecDepth 100000 in
theorem c_X12_last_A (l : Launch) (G : va_G) (cI cJ cZ cD cR cT : ClassId) (h0 : Nat) (u1 : Int32) (h0_2 : Nat) (h0_3 : Nat) (h0_4 : Nat) (h0_5 : Nat) (h0_9 : Nat) (h0_10 : Nat) (h0_11 : Nat) (h0_20 : Nat) (h0_22 : Nat) (h0_23 : Nat) (h0_25 : Nat) (h0_26 : Nat) (h0_29 : Nat) (h0_30 : Nat) (h0_31 : Nat) (h0_32 : Nat) (h0_39 : Nat) (h0_40 : Nat) (h0_42 : Nat) (h0_44 : Nat) (h0_45 : Nat) (sz : Nat) : Met l yX12_last v_X12_last ({ frames := 12, cells := 0, slots := 0, locals := 900 }) (va_Pc [.ref h0, .int u1, .int 0, .int 0] (PreW G (tys6 cI cJ cZ cD cR cT) [(h0, .inr (12, [.int 0, .int 0, .ref h0_2, .ref h0_3, .ref h0_4, .ref h0_5, .int 0, .int 0, .int 0, .ref h0_9, .ref h0_10, .ref h0_11, .int 0, .int 0, .int 0, .int 0, .long 0, .int (-1), .int 0, .int 0, .ref h0_20, .int 0, .ref h0_22, .ref h0_23, .int 0, .ref h0_25, .ref h0_26, .int 0, .int 0, .ref h0_29, .ref h0_30, .ref h0_31, .ref h0_32, .int 0, .long 0, .long 0, .long 0, .long 0, .int 0, .ref h0_39, .ref h0_40, .int 0, .ref h0_42, .int 0, .ref h0_44, .ref h0_45, .int 0, .int 0, .int 0, .int 0, .int 0, .int 0])), (h0_2, .inl (cI, 35942, .inl mrow))] sz)) (QW (RI (fun r => r = F_last u1 0 0)) G (va_A [(h0, .inr (12, [.int 0, .int 0, .ref h0_2, .ref h0_3, .ref h0_4, .ref h0_5, .int 0, .int 0, .int 0, .ref h0_9, .ref h0_10, .ref h0_11, .int 0, .int 0, .int 0, .int 0, .long 0, .int (-1), .int 0, .int 0, .ref h0_20, .int 0, .ref h0_22, .ref h0_23, .int 0, .ref h0_25, .ref h0_26, .int 0, .int 0, .ref h0_29, .ref h0_30, .ref h0_31, .ref h0_32, .int 0, .long 0, .long 0, .long 0, .long 0, .int 0, .ref h0_39, .ref h0_40, .int 0, .ref h0_42, .int 0, .ref h0_44, .ref h0_45, .int 0, .int 0, .int 0, .int 0, .int 0, .int 0])), (h0_2, .inl (cI, 35942, .inl mrow))] sz) (fun q g => [])) 0 0 (va_A [(h0, .inr (12, [.int 0, .int 0, .ref h0_2, .ref h0_3, .ref h0_4, .ref h0_5, .int 0, .int 0, .int 0, .ref h0_9, .ref h0_10, .ref h0_11, .int 0, .int 0, .int 0, .int 0, .long 0, .int (-1), .int 0, .int 0, .ref h0_20, .int 0, .ref h0_22, .ref h0_23, .int 0, .ref h0_25, .ref h0_26, .int 0, .int 0, .ref h0_29, .ref h0_30, .ref h0_31, .ref h0_32, .int 0, .long 0, .long 0, .long 0, .long 0, .int 0, .ref h0_39, .ref h0_40, .int 0, .ref h0_42, .int 0, .ref h0_44, .ref h0_45, .int 0, .int 0, .int 0, .int 0, .int 0, .int 0])), (h0_2, .inl (cI, 35942, .inl mrow))] sz) := by
  refine metW (cc := cX12_last) (maxL := 7) (ret := (some .int)) (by decide) rfl (Nat.le_of_ble_eq_true rfl) ?_
  intro p e s m below meth c A ls hx hb hr hml hown hts hlocks hin hKK hP hD hA hS hl
  have hK := hKK.1
  have hown : s.vm.findClass RX12 = some m.cls := hown
  have hl : lv_has ls 7 [(0, .ref h0), (1, .int u1), (2, .int 0), (3, .int 0)] := hl
  have hP : va_P G vwCl [(h0, .inr (12, [.int 0, .int 0, .ref h0_2, .ref h0_3, .ref h0_4, .ref h0_5, .int 0, .int 0, .int 0, .ref h0_9, .ref h0_10, .ref h0_11, .int 0, .int 0, .int 0, .int 0, .long 0, .int (-1), .int 0, .int 0, .ref h0_20, .int 0, .ref h0_22, .ref h0_23, .int 0, .ref h0_25, .ref h0_26, .int 0, .int 0, .ref h0_29, .ref h0_30, .ref h0_31, .ref h0_32, .int 0, .long 0, .long 0, .long 0, .long 0, .int 0, .ref h0_39, .ref h0_40, .int 0, .ref h0_42, .int 0, .ref h0_44, .ref h0_45, .int 0, .int 0, .int 0, .int 0, .int 0, .int 0])), (h0_2, .inl (cI, 35942, .inl mrow))] s.heap := hP
  have hD : va_D A [(h0, .inr (12, [.int 0, .int 0, .ref h0_2, .ref h0_3, .ref h0_4, .ref h0_5, .int 0, .int 0, .int 0, .ref h0_9, .ref h0_10, .ref h0_11, .int 0, .int 0, .int 0, .int 0, .long 0, .int (-1), .int 0, .int 0, .ref h0_20, .int 0, .ref h0_22, .ref h0_23, .int 0, .ref h0_25, .ref h0_26, .int 0, .int 0, .ref h0_29, .ref h0_30, .ref h0_31, .ref h0_32, .int 0, .long 0, .long 0, .long 0, .long 0, .int 0, .ref h0_39, .ref h0_40, .int 0, .ref h0_42, .int 0, .ref h0_44, .ref h0_45, .int 0, .int 0, .int 0, .int 0, .int 0, .int 0])), (h0_2, .inl (cI, 35942, .inl mrow))] := hD
  refine lv_aload_n hx hb dX12_last_0 rfl (lv_at hl 0 rfl) ?_
  refine lv_iconst (v := 0) hx hb dX12_last_1 (by decide) ?_
  refine va_put (D := G) (ci := 12) (v := .int 0) (ty := .int) (C := RX12) (T := TX12) (N := 52) hx hb hts cm_X12_last_0 tyX12 tyX12_ok nmX12 hown hK hP hD hS 0 rfl rfl 0 (by decide) (hts _ (dmem (j := 0) rfl)) (fun _ h9 => h9) rfl (by decide +kernel) rfl rfl (Nat.le_of_ble_eq_true rfl) dX12_last_2 (fun H locs => setW (ws' := [(h0, .inr (12, [.int 0, .int 0, .ref h0_2, .ref h0_3, .ref h0_4, .ref h0_5, .int 0, .int 0, .int 0, .ref h0_9, .ref h0_10, .ref h0_11, .int 0, .int 0, .int 0, .int 0, .long 0, .int (-1), .int 0, .int 0, .ref h0_20, .int 0, .ref h0_22, .ref h0_23, .int 0, .ref h0_25, .ref h0_26, .int 0, .int 0, .ref h0_29, .ref h0_30, .ref h0_31, .ref h0_32, .int 0, .long 0, .long 0, .long 0, .long 0, .int 0, .ref h0_39, .ref h0_40, .int 0, .ref h0_42, .int 0, .ref h0_44, .ref h0_45, .int 0, .int 0, .int 0, .int 0, .int 0, .int 0])), (h0_2, .inl (cI, 35942, .inl mrow))]) rfl (fun hP hD hS => ?_))
  refine lv_iload_n hx hb dX12_last_5 rfl (lv_at hl 1 rfl) ?_
  refine lv_i2l hx hb dX12_last_6 rfl ?_
  refine lv_lconst (v := 1) hx hb dX12_last_7 (by decide) ?_
  refine lv_ldc2 (v := 10000) hx hb hown (hts _ (dmem (j := 1) rfl)) dX12_last_8 ?_
  refine goS (As := [.long (u1).toInt64, .long 1, .long 10000]) (rest := []) (wr := [(h0, .inr (12, [.int 0, .int 0, .ref h0_2, .ref h0_3, .ref h0_4, .ref h0_5, .int 0, .int 0, .int 0, .ref h0_9, .ref h0_10, .ref h0_11, .int 0, .int 0, .int 0, .int 0, .long 0, .int (-1), .int 0, .int 0, .ref h0_20, .int 0, .ref h0_22, .ref h0_23, .int 0, .ref h0_25, .ref h0_26, .int 0, .int 0, .ref h0_29, .ref h0_30, .ref h0_31, .ref h0_32, .int 0, .long 0, .long 0, .long 0, .long 0, .int 0, .ref h0_39, .ref h0_40, .int 0, .ref h0_42, .int 0, .ref h0_44, .ref h0_45, .int 0, .int 0, .int 0, .int 0, .int 0, .int 0])), (h0_2, .inl (cI, 35942, .inl mrow))]) ⟨hx, hb, hml, hown, hts⟩ (c_X12_in l G cI cJ cZ cD cR cT (u1).toInt64 1 10000 u1.toInt 1 10000 _ (Int32.toInt_toInt64 u1) (by decide) (by decide)) (va_cwS 3 hts gv_X12_last_90_X12_in rfl rfl rfl (by decide +kernel) ⟨Nat.le_of_ble_eq_true rfl, Nat.le_of_ble_eq_true rfl⟩) hKK hP hD hS hA [] [0, 1] rfl rfl (by decide +kernel) (by decide +kernel) (by decide +kernel) rfl hl.1 rfl (lv_room (Nat.le_of_ble_eq_true rfl)) dX12_last_11 ⟨Nat.le_of_ble_eq_true rfl, Nat.le_of_ble_eq_true rfl⟩ (fun v2 q1 gq1 H locs hv2 => appW (ws' := [(h0, .inr (12, [.int 0, .int 0, .ref h0_2, .ref h0_3, .ref h0_4, .ref h0_5, .int 0, .int 0, .int 0, .ref h0_9, .ref h0_10, .ref h0_11, .int 0, .int 0, .int 0, .int 0, .long 0, .int (-1), .int 0, .int 0, .ref h0_20, .int 0, .ref h0_22, .ref h0_23, .int 0, .ref h0_25, .ref h0_26, .int 0, .int 0, .ref h0_29, .ref h0_30, .ref h0_31, .ref h0_32, .int 0, .long 0, .long 0, .long 0, .long 0, .int 0, .ref h0_39, .ref h0_40, .int 0, .ref h0_42, .int 0, .ref h0_44, .ref h0_45, .int 0, .int 0, .int 0, .int 0, .int 0, .int 0])), (h0_2, .inl (cI, 35942, .inl mrow))]) rfl (fun hP hD hS => ?_))
  obtain ⟨_, rfl, h4⟩ := hv2
  rcases h4 with ⟨rfl, h4⟩ | ⟨rfl, h4⟩
  · refine lv_if_eq (tgt := 41) hx hb dX12_last_14 (by decide) (fun c => absurd c (by decide)) (fun _ => ?_)
    refine lv_iload_n hx hb dX12_last_17 rfl (lv_at hl 2 rfl) ?_
    refine lv_i2l (v := 0) hx hb dX12_last_18 (by decide) ?_
    refine lv_lconst (v := 0) hx hb dX12_last_19 (by decide) ?_
    refine lv_ldc2 (v := 1000) hx hb hown (hts _ (dmem (j := 5) rfl)) dX12_last_20 ?_
    refine goS (As := [.long 0, .long 0, .long 1000]) (rest := []) (wr := [(h0, .inr (12, [.int 0, .int 0, .ref h0_2, .ref h0_3, .ref h0_4, .ref h0_5, .int 0, .int 0, .int 0, .ref h0_9, .ref h0_10, .ref h0_11, .int 0, .int 0, .int 0, .int 0, .long 0, .int (-1), .int 0, .int 0, .ref h0_20, .int 0, .ref h0_22, .ref h0_23, .int 0, .ref h0_25, .ref h0_26, .int 0, .int 0, .ref h0_29, .ref h0_30, .ref h0_31, .ref h0_32, .int 0, .long 0, .long 0, .long 0, .long 0, .int 0, .ref h0_39, .ref h0_40, .int 0, .ref h0_42, .int 0, .ref h0_44, .ref h0_45, .int 0, .int 0, .int 0, .int 0, .int 0, .int 0])), (h0_2, .inl (cI, 35942, .inl mrow))]) ⟨hx, hb, hml, hown, hts⟩ (c_X12_in l G cI cJ cZ cD cR cT 0 0 1000 0 0 1000 _ (by decide) (by decide) (by decide)) (va_cwS 3 hts gv_X12_last_90_X12_in rfl rfl rfl (by decide +kernel) ⟨Nat.le_of_ble_eq_true rfl, Nat.le_of_ble_eq_true rfl⟩) hKK hP hD hS hA [] [0, 1] rfl rfl (by decide +kernel) (by decide +kernel) (by decide +kernel) rfl hl.1 rfl (lv_room (Nat.le_of_ble_eq_true rfl)) dX12_last_23 ⟨Nat.le_of_ble_eq_true rfl, Nat.le_of_ble_eq_true rfl⟩ (fun v6 q5 gq5 H locs hv6 => appW (ws' := [(h0, .inr (12, [.int 0, .int 0, .ref h0_2, .ref h0_3, .ref h0_4, .ref h0_5, .int 0, .int 0, .int 0, .ref h0_9, .ref h0_10, .ref h0_11, .int 0, .int 0, .int 0, .int 0, .long 0, .int (-1), .int 0, .int 0, .ref h0_20, .int 0, .ref h0_22, .ref h0_23, .int 0, .ref h0_25, .ref h0_26, .int 0, .int 0, .ref h0_29, .ref h0_30, .ref h0_31, .ref h0_32, .int 0, .long 0, .long 0, .long 0, .long 0, .int 0, .ref h0_39, .ref h0_40, .int 0, .ref h0_42, .int 0, .ref h0_44, .ref h0_45, .int 0, .int 0, .int 0, .int 0, .int 0, .int 0])), (h0_2, .inl (cI, 35942, .inl mrow))]) rfl (fun hP hD hS => ?_))
    obtain ⟨_, rfl, h8⟩ := hv6
    rcases h8 with ⟨rfl, h8⟩ | ⟨rfl, h8⟩
    · refine lv_if_eq (tgt := 41) hx hb dX12_last_26 (by decide) (fun c => absurd c (by decide)) (fun _ => ?_)
      refine lv_iload_n hx hb dX12_last_29 rfl (lv_at hl 3 rfl) ?_
      refine lv_i2l (v := 0) hx hb dX12_last_30 (by decide) ?_
      refine lv_lconst (v := 0) hx hb dX12_last_31 (by decide) ?_
      refine lv_ldc2 (v := 1000) hx hb hown (hts _ (dmem (j := 5) rfl)) dX12_last_32 ?_
      refine goS (As := [.long 0, .long 0, .long 1000]) (rest := []) (wr := [(h0, .inr (12, [.int 0, .int 0, .ref h0_2, .ref h0_3, .ref h0_4, .ref h0_5, .int 0, .int 0, .int 0, .ref h0_9, .ref h0_10, .ref h0_11, .int 0, .int 0, .int 0, .int 0, .long 0, .int (-1), .int 0, .int 0, .ref h0_20, .int 0, .ref h0_22, .ref h0_23, .int 0, .ref h0_25, .ref h0_26, .int 0, .int 0, .ref h0_29, .ref h0_30, .ref h0_31, .ref h0_32, .int 0, .long 0, .long 0, .long 0, .long 0, .int 0, .ref h0_39, .ref h0_40, .int 0, .ref h0_42, .int 0, .ref h0_44, .ref h0_45, .int 0, .int 0, .int 0, .int 0, .int 0, .int 0])), (h0_2, .inl (cI, 35942, .inl mrow))]) ⟨hx, hb, hml, hown, hts⟩ (c_X12_in l G cI cJ cZ cD cR cT 0 0 1000 0 0 1000 _ (by decide) (by decide) (by decide)) (va_cwS 3 hts gv_X12_last_90_X12_in rfl rfl rfl (by decide +kernel) ⟨Nat.le_of_ble_eq_true rfl, Nat.le_of_ble_eq_true rfl⟩) hKK hP hD hS hA [] [0, 1] rfl rfl (by decide +kernel) (by decide +kernel) (by decide +kernel) rfl hl.1 rfl (lv_room (Nat.le_of_ble_eq_true rfl)) dX12_last_35 ⟨Nat.le_of_ble_eq_true rfl, Nat.le_of_ble_eq_true rfl⟩ (fun v10 q9 gq9 H locs hv10 => appW (ws' := [(h0, .inr (12, [.int 0, .int 0, .ref h0_2, .ref h0_3, .ref h0_4, .ref h0_5, .int 0, .int 0, .int 0, .ref h0_9, .ref h0_10, .ref h0_11, .int 0, .int 0, .int 0, .int 0, .long 0, .int (-1), .int 0, .int 0, .ref h0_20, .int 0, .ref h0_22, .ref h0_23, .int 0, .ref h0_25, .ref h0_26, .int 0, .int 0, .ref h0_29, .ref h0_30, .ref h0_31, .ref h0_32, .int 0, .long 0, .long 0, .long 0, .long 0, .int 0, .ref h0_39, .ref h0_40, .int 0, .ref h0_42, .int 0, .ref h0_44, .ref h0_45, .int 0, .int 0, .int 0, .int 0, .int 0, .int 0])), (h0_2, .inl (cI, 35942, .inl mrow))]) rfl (fun hP hD hS => ?_))
      obtain ⟨_, rfl, h12⟩ := hv10
      rcases h12 with ⟨rfl, h12⟩ | ⟨rfl, h12⟩
      · refine lv_if_ne (tgt := 43) hx hb dX12_last_38 (by decide) (fun _ => ?_) (fun c => absurd c (by decide))
        refine lv_aload_n hx hb dX12_last_43 rfl (lv_at hl 0 rfl) ?_
        refine va_get (D := G) (ci := 12) (v := .ref h0_2) (C := RX12) (T := TX12) (N := 52) hx hb hts cm_X12_last_0 hown hK hP 0 rfl rfl 2 (by decide) (hts _ (dmem (j := 6) rfl)) (fun _ h9 => h9) rfl dX12_last_44 ?_
        refine lv_bipush (v := 9) hx hb dX12_last_47 (by decide) ?_
        refine va_iald hx hb hK hP 1 0 rfl rfl (vp_in_iff.mpr (by decide)) dX12_last_49 ?_
        refine lv_topi (fun x13 ex13 => ?_)
        obtain rfl : 0 = x13 := (ex13.trans (by first | rfl | decide | (simp [upd, mrow]; done))).symm
        refine lv_i2l (v := 0) hx hb dX12_last_50 (by decide) ?_
        refine lv_lstore (lv' := [(4, .long 0), (0, .ref h0), (1, .int u1), (2, .int 0), (3, .int 0)]) hx hb dX12_last_51 hl (by decide) rfl (fun ls hl => ?_)
        refine lv_iconst (v := 0) hx hb dX12_last_53 (by decide) ?_
        refine lv_istore (lv' := [(6, .int 0), (4, .long 0), (0, .ref h0), (1, .int u1), (2, .int 0), (3, .int 0)]) hx hb dX12_last_54 hl (by decide) rfl (fun ls hl => ?_)
        have loop56 : ∀ (n15 k14 : Nat), k14 + n15 = 400 → ∀ (H : Heap) (locs : List Loc) (ls : Array Slot), va_P G vwCl [(h0, .inr (12, [.int 0, .int 0, .ref h0_2, .ref h0_3, .ref h0_4, .ref h0_5, .int 0, .int 0, .int 0, .ref h0_9, .ref h0_10, .ref h0_11, .int 0, .int 0, .int 0, .int 0, .long 0, .int (-1), .int 0, .int 0, .ref h0_20, .int 0, .ref h0_22, .ref h0_23, .int 0, .ref h0_25, .ref h0_26, .int 0, .int 0, .ref h0_29, .ref h0_30, .ref h0_31, .ref h0_32, .int 0, .long 0, .long 0, .long 0, .long 0, .int 0, .ref h0_39, .ref h0_40, .int 0, .ref h0_42, .int 0, .ref h0_44, .ref h0_45, .int 0, .int 0, .int 0, .int 0, .int 0, .int 0])), (h0_2, .inl (cI, 35942, .inl mrow))] H → va_D A [(h0, .inr (12, [.int 0, .int 0, .ref h0_2, .ref h0_3, .ref h0_4, .ref h0_5, .int 0, .int 0, .int 0, .ref h0_9, .ref h0_10, .ref h0_11, .int 0, .int 0, .int 0, .int 0, .long 0, .int (-1), .int 0, .int 0, .ref h0_20, .int 0, .ref h0_22, .ref h0_23, .int 0, .ref h0_25, .ref h0_26, .int 0, .int 0, .ref h0_29, .ref h0_30, .ref h0_31, .ref h0_32, .int 0, .long 0, .long 0, .long 0, .long 0, .int 0, .ref h0_39, .ref h0_40, .int 0, .ref h0_42, .int 0, .ref h0_44, .ref h0_45, .int 0, .int 0, .int 0, .int 0, .int 0, .int 0])), (h0_2, .inl (cI, 35942, .inl mrow))] → va_S A s.heap H locs → lv_has ls 7 [(6, .int (nI k14)), (4, .long 0), (0, .ref h0), (1, .int u1), (2, .int 0), (3, .int 0)] → W p l e ({ frames := 12, cells := 0, slots := 0, locals := 900 }) s m ([.ref h0, .int u1, .int 0, .int 0] : List Value).toArray below meth c H locs 0 0 (MQ below (QW (RI (fun r => r = F_last u1 0 0)) G A (fun q g => [])) ([.ref h0, .int u1, .int 0, .int 0] : List Value).toArray s 0 0 A) (F0 m 56 ls []) := by
          intro n15
          induction n15 with
          | zero =>
            intro k14 hk  H locs ls hP hD hS hl
            obtain rfl : 400 = k14 := by omega
            have hl : lv_has ls 7 [(6, .int 400), (4, .long 0), (0, .ref h0), (1, .int u1), (2, .int 0), (3, .int 0)] := hl
            refine lv_iload hx hb dX12_last_56 (lv_at hl 0 rfl) ?_
            refine lv_sipush (v := 400) hx hb dX12_last_58 (by decide) ?_
            refine lv_icmp_ge (tgt := 101) hx hb dX12_last_61 (by decide) (fun _ => ?_) (fun c => absurd c (by decide))
            refine lv_iload hx hb dX12_last_101 (lv_at hl 0 rfl) ?_
            exact retI hx hb hr hlocks ⟨_, rfl, by have hz0 : (0 : Int32).toInt = 0 := rfl; have hz1 : (1 : Int32).toInt = 1 := rfl; unfold F_last; (repeat' split) <;> first | rfl | (exfalso; omega)⟩ hP hD hS (fun _ => 0) (fun _ _ => 0) [] (by decide +kernel) rfl dX12_last_103
          | succ n15 ih =>
            intro k14 hk  H locs ls hP hD hS hl
            have hkI : (nI k14).toInt = (k14 : Int) := nI_toInt (by omega)
            refine lv_iload hx hb dX12_last_56 (lv_at hl 0 rfl) ?_
            refine lv_sipush (v := 400) hx hb dX12_last_58 (by decide) ?_
            refine lv_icmp_ge (tgt := 101) hx hb dX12_last_61 (by decide) (fun c16 => ?_) (fun c16 => ?_)
            · have f17 : (400 : Int) ≤ (nI k14).toInt := Int32.le_iff_toInt_le.mp c16
              exfalso; omega
            · have f18 : ¬ ((400 : Int) ≤ (nI k14).toInt) := fun h => c16 (Int32.le_iff_toInt_le.mpr h)
              refine lv_lload hx hb dX12_last_64 (lv_at hl 1 rfl) ?_
              refine lv_iload_n hx hb dX12_last_66 rfl (lv_at hl 3 rfl) ?_
              refine lv_i2l hx hb dX12_last_67 rfl ?_
              refine lv_iload_n hx hb dX12_last_68 rfl (lv_at hl 4 rfl) ?_
              refine lv_iload_n hx hb dX12_last_69 rfl (lv_at hl 5 rfl) ?_
              refine lv_iload hx hb dX12_last_70 (lv_at hl 0 rfl) ?_
              refine lv_imul hx hb dX12_last_72 ?_
              refine lv_topi (fun x19 ex19 => ?_)
              obtain rfl : 0 = x19 := (ex19.trans (by simp)).symm
              refine lv_iadd hx hb dX12_last_73 ?_
              refine lv_topi (fun x20 ex20 => ?_)
              obtain rfl : 0 = x20 := (ex20.trans (by decide)).symm
              refine lv_i2l (v := 0) hx hb dX12_last_74 (by decide) ?_
              refine lv_lmul hx hb dX12_last_75 ?_
              refine lv_topl (fun x21 ex21 => ?_)
              obtain rfl : 0 = x21 := (ex21.trans (by simp)).symm
              refine W.lcmp hx hb dX12_last_76 ?_
              refine lv_topi (fun x22 ex22 => ?_)
              obtain rfl : 0 = x22 := (ex22.trans (by decide)).symm
              refine lv_if_lt (tgt := 101) hx hb dX12_last_77 (by decide) (fun c => absurd c (by decide)) (fun _ => ?_)
              refine lv_lload hx hb dX12_last_80 (lv_at hl 1 rfl) ?_
              refine lv_iload_n hx hb dX12_last_82 rfl (lv_at hl 3 rfl) ?_
              refine lv_i2l hx hb dX12_last_83 rfl ?_
              refine lv_iload_n hx hb dX12_last_84 rfl (lv_at hl 4 rfl) ?_
              refine lv_iload_n hx hb dX12_last_85 rfl (lv_at hl 5 rfl) ?_
              refine lv_iload hx hb dX12_last_86 (lv_at hl 0 rfl) ?_
              refine lv_imul hx hb dX12_last_88 ?_
              refine lv_topi (fun x23 ex23 => ?_)
              obtain rfl : 0 = x23 := (ex23.trans (by simp)).symm
              refine lv_iadd hx hb dX12_last_89 ?_
              refine lv_topi (fun x24 ex24 => ?_)
              obtain rfl : 0 = x24 := (ex24.trans (by decide)).symm
              refine lv_i2l (v := 0) hx hb dX12_last_90 (by decide) ?_
              refine lv_lmul hx hb dX12_last_91 ?_
              refine lv_topl (fun x25 ex25 => ?_)
              obtain rfl : 0 = x25 := (ex25.trans (by simp)).symm
              refine lv_lsub hx hb dX12_last_92 ?_
              refine lv_topl (fun x26 ex26 => ?_)
              obtain rfl : 0 = x26 := (ex26.trans (by decide)).symm
              refine lv_lstore (lv' := [(4, .long 0), (6, .int (nI k14)), (0, .ref h0), (1, .int u1), (2, .int 0), (3, .int 0)]) hx hb dX12_last_93 hl (by decide) rfl (fun ls hl => ?_)
              refine lv_iinc (v := (nI (k14 + 1))) (lv' := [(6, .int (nI (k14 + 1))), (4, .long 0), (0, .ref h0), (1, .int u1), (2, .int 0), (3, .int 0)]) hx hb dX12_last_95 hl (k := 1) rfl (nI_1 k14) (by decide) rfl (fun ls hl => ?_)
              refine lv_goto (tgt := 56) hx hb dX12_last_98 (by decide) ?_
              exact ih (k14 + 1) (by omega) _ _ _ hP hD hS (lv_sub hl [0, 1, 2, 3, 4, 5] rfl)
        exact loop56 400 0 (by omega) _ _ _ hP hD hS hl
      · exfalso; omega
    · exfalso; omega
  · refine lv_if_eq (tgt := 41) hx hb dX12_last_14 (by decide) (fun _ => ?_) (fun c => absurd c (by decide))
    refine lv_iconst (v := (-1)) hx hb dX12_last_41 (by decide) ?_
    exact retI hx hb hr hlocks ⟨_, rfl, by have hz0 : (0 : Int32).toInt = 0 := rfl; have hz1 : (1 : Int32).toInt = 1 := rfl; unfold F_last; (repeat' split) <;> first | rfl | (exfalso; omega)⟩ hP hD hS (fun _ => 0) (fun _ _ => 0) [] (by decide +kernel) rfl dX12_last_42

set_option maxHeartbeats 4000000 in
set_option maxRecDepth 100000 in
theorem c_X12_last_B (l : Launch) (G : va_G) (cI cJ cZ cD cR cT : ClassId) (h0 : Nat) (u1 : Int32) (u3 : Int32) (h0_2 : Nat) (h0_3 : Nat) (h0_4 : Nat) (h0_5 : Nat) (h0_9 : Nat) (h0_10 : Nat) (h0_11 : Nat) (h0_20 : Nat) (h0_22 : Nat) (h0_23 : Nat) (h0_25 : Nat) (h0_26 : Nat) (h0_29 : Nat) (h0_30 : Nat) (h0_31 : Nat) (h0_32 : Nat) (h0_39 : Nat) (h0_40 : Nat) (h0_42 : Nat) (h0_44 : Nat) (h0_45 : Nat) (sz : Nat) (h3 : ¬ u3.toInt = 0) : Met l yX12_last v_X12_last ({ frames := 12, cells := 0, slots := 0, locals := 900 }) (va_Pc [.ref h0, .int u1, .int 0, .int u3] (PreW G (tys6 cI cJ cZ cD cR cT) [(h0, .inr (12, [.int 0, .int 0, .ref h0_2, .ref h0_3, .ref h0_4, .ref h0_5, .int 0, .int 0, .int 0, .ref h0_9, .ref h0_10, .ref h0_11, .int 0, .int 0, .int 0, .int 0, .long 0, .int (-1), .int 0, .int 0, .ref h0_20, .int 0, .ref h0_22, .ref h0_23, .int 0, .ref h0_25, .ref h0_26, .int 0, .int 0, .ref h0_29, .ref h0_30, .ref h0_31, .ref h0_32, .int 0, .long 0, .long 0, .long 0, .long 0, .int 0, .ref h0_39, .ref h0_40, .int 0, .ref h0_42, .int 0, .ref h0_44, .ref h0_45, .int 0, .int 0, .int 0, .int 0, .int 0, .int 0])), (h0_2, .inl (cI, 35942, .inl mrow))] sz)) (QW (RI (fun r => r = F_last u1 0 u3)) G (va_A [(h0, .inr (12, [.int 0, .int 0, .ref h0_2, .ref h0_3, .ref h0_4, .ref h0_5, .int 0, .int 0, .int 0, .ref h0_9, .ref h0_10, .ref h0_11, .int 0, .int 0, .int 0, .int 0, .long 0, .int (-1), .int 0, .int 0, .ref h0_20, .int 0, .ref h0_22, .ref h0_23, .int 0, .ref h0_25, .ref h0_26, .int 0, .int 0, .ref h0_29, .ref h0_30, .ref h0_31, .ref h0_32, .int 0, .long 0, .long 0, .long 0, .long 0, .int 0, .ref h0_39, .ref h0_40, .int 0, .ref h0_42, .int 0, .ref h0_44, .ref h0_45, .int 0, .int 0, .int 0, .int 0, .int 0, .int 0])), (h0_2, .inl (cI, 35942, .inl mrow))] sz) (fun q g => [])) 0 0 (va_A [(h0, .inr (12, [.int 0, .int 0, .ref h0_2, .ref h0_3, .ref h0_4, .ref h0_5, .int 0, .int 0, .int 0, .ref h0_9, .ref h0_10, .ref h0_11, .int 0, .int 0, .int 0, .int 0, .long 0, .int (-1), .int 0, .int 0, .ref h0_20, .int 0, .ref h0_22, .ref h0_23, .int 0, .ref h0_25, .ref h0_26, .int 0, .int 0, .ref h0_29, .ref h0_30, .ref h0_31, .ref h0_32, .int 0, .long 0, .long 0, .long 0, .long 0, .int 0, .ref h0_39, .ref h0_40, .int 0, .ref h0_42, .int 0, .ref h0_44, .ref h0_45, .int 0, .int 0, .int 0, .int 0, .int 0, .int 0])), (h0_2, .inl (cI, 35942, .inl mrow))] sz) := by
  refine metW (cc := cX12_last) (maxL := 7) (ret := (some .int)) (by decide) rfl (Nat.le_of_ble_eq_true rfl) ?_
  intro p e s m below meth c A ls hx hb hr hml hown hts hlocks hin hKK hP hD hA hS hl
  have hK := hKK.1
  have hown : s.vm.findClass RX12 = some m.cls := hown
  have hl : lv_has ls 7 [(0, .ref h0), (1, .int u1), (2, .int 0), (3, .int u3)] := hl
  have hP : va_P G vwCl [(h0, .inr (12, [.int 0, .int 0, .ref h0_2, .ref h0_3, .ref h0_4, .ref h0_5, .int 0, .int 0, .int 0, .ref h0_9, .ref h0_10, .ref h0_11, .int 0, .int 0, .int 0, .int 0, .long 0, .int (-1), .int 0, .int 0, .ref h0_20, .int 0, .ref h0_22, .ref h0_23, .int 0, .ref h0_25, .ref h0_26, .int 0, .int 0, .ref h0_29, .ref h0_30, .ref h0_31, .ref h0_32, .int 0, .long 0, .long 0, .long 0, .long 0, .int 0, .ref h0_39, .ref h0_40, .int 0, .ref h0_42, .int 0, .ref h0_44, .ref h0_45, .int 0, .int 0, .int 0, .int 0, .int 0, .int 0])), (h0_2, .inl (cI, 35942, .inl mrow))] s.heap := hP
  have hD : va_D A [(h0, .inr (12, [.int 0, .int 0, .ref h0_2, .ref h0_3, .ref h0_4, .ref h0_5, .int 0, .int 0, .int 0, .ref h0_9, .ref h0_10, .ref h0_11, .int 0, .int 0, .int 0, .int 0, .long 0, .int (-1), .int 0, .int 0, .ref h0_20, .int 0, .ref h0_22, .ref h0_23, .int 0, .ref h0_25, .ref h0_26, .int 0, .int 0, .ref h0_29, .ref h0_30, .ref h0_31, .ref h0_32, .int 0, .long 0, .long 0, .long 0, .long 0, .int 0, .ref h0_39, .ref h0_40, .int 0, .ref h0_42, .int 0, .ref h0_44, .ref h0_45, .int 0, .int 0, .int 0, .int 0, .int 0, .int 0])), (h0_2, .inl (cI, 35942, .inl mrow))] := hD
  refine lv_aload_n hx hb dX12_last_0 rfl (lv_at hl 0 rfl) ?_
  refine lv_iconst (v := 0) hx hb dX12_last_1 (by decide) ?_
  refine va_put (D := G) (ci := 12) (v := .int 0) (ty := .int) (C := RX12) (T := TX12) (N := 52) hx hb hts cm_X12_last_0 tyX12 tyX12_ok nmX12 hown hK hP hD hS 0 rfl rfl 0 (by decide) (hts _ (dmem (j := 0) rfl)) (fun _ h9 => h9) rfl (by decide +kernel) rfl rfl (Nat.le_of_ble_eq_true rfl) dX12_last_2 (fun H locs => setW (ws' := [(h0, .inr (12, [.int 0, .int 0, .ref h0_2, .ref h0_3, .ref h0_4, .ref h0_5, .int 0, .int 0, .int 0, .ref h0_9, .ref h0_10, .ref h0_11, .int 0, .int 0, .int 0, .int 0, .long 0, .int (-1), .int 0, .int 0, .ref h0_20, .int 0, .ref h0_22, .ref h0_23, .int 0, .ref h0_25, .ref h0_26, .int 0, .int 0, .ref h0_29, .ref h0_30, .ref h0_31, .ref h0_32, .int 0, .long 0, .long 0, .long 0, .long 0, .int 0, .ref h0_39, .ref h0_40, .int 0, .ref h0_42, .int 0, .ref h0_44, .ref h0_45, .int 0, .int 0, .int 0, .int 0, .int 0, .int 0])), (h0_2, .inl (cI, 35942, .inl mrow))]) rfl (fun hP hD hS => ?_))
  refine lv_iload_n hx hb dX12_last_5 rfl (lv_at hl 1 rfl) ?_
  refine lv_i2l hx hb dX12_last_6 rfl ?_
  refine lv_lconst (v := 1) hx hb dX12_last_7 (by decide) ?_
  refine lv_ldc2 (v := 10000) hx hb hown (hts _ (dmem (j := 1) rfl)) dX12_last_8 ?_
  refine goS (As := [.long (u1).toInt64, .long 1, .long 10000]) (rest := []) (wr := [(h0, .inr (12, [.int 0, .int 0, .ref h0_2, .ref h0_3, .ref h0_4, .ref h0_5, .int 0, .int 0, .int 0, .ref h0_9, .ref h0_10, .ref h0_11, .int 0, .int 0, .int 0, .int 0, .long 0, .int (-1), .int 0, .int 0, .ref h0_20, .int 0, .ref h0_22, .ref h0_23, .int 0, .ref h0_25, .ref h0_26, .int 0, .int 0, .ref h0_29, .ref h0_30, .ref h0_31, .ref h0_32, .int 0, .long 0, .long 0, .long 0, .long 0, .int 0, .ref h0_39, .ref h0_40, .int 0, .ref h0_42, .int 0, .ref h0_44, .ref h0_45, .int 0, .int 0, .int 0, .int 0, .int 0, .int 0])), (h0_2, .inl (cI, 35942, .inl mrow))]) ⟨hx, hb, hml, hown, hts⟩ (c_X12_in l G cI cJ cZ cD cR cT (u1).toInt64 1 10000 u1.toInt 1 10000 _ (Int32.toInt_toInt64 u1) (by decide) (by decide)) (va_cwS 3 hts gv_X12_last_90_X12_in rfl rfl rfl (by decide +kernel) ⟨Nat.le_of_ble_eq_true rfl, Nat.le_of_ble_eq_true rfl⟩) hKK hP hD hS hA [] [0, 1] rfl rfl (by decide +kernel) (by decide +kernel) (by decide +kernel) rfl hl.1 rfl (lv_room (Nat.le_of_ble_eq_true rfl)) dX12_last_11 ⟨Nat.le_of_ble_eq_true rfl, Nat.le_of_ble_eq_true rfl⟩ (fun v2 q1 gq1 H locs hv2 => appW (ws' := [(h0, .inr (12, [.int 0, .int 0, .ref h0_2, .ref h0_3, .ref h0_4, .ref h0_5, .int 0, .int 0, .int 0, .ref h0_9, .ref h0_10, .ref h0_11, .int 0, .int 0, .int 0, .int 0, .long 0, .int (-1), .int 0, .int 0, .ref h0_20, .int 0, .ref h0_22, .ref h0_23, .int 0, .ref h0_25, .ref h0_26, .int 0, .int 0, .ref h0_29, .ref h0_30, .ref h0_31, .ref h0_32, .int 0, .long 0, .long 0, .long 0, .long 0, .int 0, .ref h0_39, .ref h0_40, .int 0, .ref h0_42, .int 0, .ref h0_44, .ref h0_45, .int 0, .int 0, .int 0, .int 0, .int 0, .int 0])), (h0_2, .inl (cI, 35942, .inl mrow))]) rfl (fun hP hD hS => ?_))
  obtain ⟨_, rfl, h4⟩ := hv2
  rcases h4 with ⟨rfl, h4⟩ | ⟨rfl, h4⟩
  · refine lv_if_eq (tgt := 41) hx hb dX12_last_14 (by decide) (fun c => absurd c (by decide)) (fun _ => ?_)
    refine lv_iload_n hx hb dX12_last_17 rfl (lv_at hl 2 rfl) ?_
    refine lv_i2l (v := 0) hx hb dX12_last_18 (by decide) ?_
    refine lv_lconst (v := 0) hx hb dX12_last_19 (by decide) ?_
    refine lv_ldc2 (v := 1000) hx hb hown (hts _ (dmem (j := 5) rfl)) dX12_last_20 ?_
    refine goS (As := [.long 0, .long 0, .long 1000]) (rest := []) (wr := [(h0, .inr (12, [.int 0, .int 0, .ref h0_2, .ref h0_3, .ref h0_4, .ref h0_5, .int 0, .int 0, .int 0, .ref h0_9, .ref h0_10, .ref h0_11, .int 0, .int 0, .int 0, .int 0, .long 0, .int (-1), .int 0, .int 0, .ref h0_20, .int 0, .ref h0_22, .ref h0_23, .int 0, .ref h0_25, .ref h0_26, .int 0, .int 0, .ref h0_29, .ref h0_30, .ref h0_31, .ref h0_32, .int 0, .long 0, .long 0, .long 0, .long 0, .int 0, .ref h0_39, .ref h0_40, .int 0, .ref h0_42, .int 0, .ref h0_44, .ref h0_45, .int 0, .int 0, .int 0, .int 0, .int 0, .int 0])), (h0_2, .inl (cI, 35942, .inl mrow))]) ⟨hx, hb, hml, hown, hts⟩ (c_X12_in l G cI cJ cZ cD cR cT 0 0 1000 0 0 1000 _ (by decide) (by decide) (by decide)) (va_cwS 3 hts gv_X12_last_90_X12_in rfl rfl rfl (by decide +kernel) ⟨Nat.le_of_ble_eq_true rfl, Nat.le_of_ble_eq_true rfl⟩) hKK hP hD hS hA [] [0, 1] rfl rfl (by decide +kernel) (by decide +kernel) (by decide +kernel) rfl hl.1 rfl (lv_room (Nat.le_of_ble_eq_true rfl)) dX12_last_23 ⟨Nat.le_of_ble_eq_true rfl, Nat.le_of_ble_eq_true rfl⟩ (fun v6 q5 gq5 H locs hv6 => appW (ws' := [(h0, .inr (12, [.int 0, .int 0, .ref h0_2, .ref h0_3, .ref h0_4, .ref h0_5, .int 0, .int 0, .int 0, .ref h0_9, .ref h0_10, .ref h0_11, .int 0, .int 0, .int 0, .int 0, .long 0, .int (-1), .int 0, .int 0, .ref h0_20, .int 0, .ref h0_22, .ref h0_23, .int 0, .ref h0_25, .ref h0_26, .int 0, .int 0, .ref h0_29, .ref h0_30, .ref h0_31, .ref h0_32, .int 0, .long 0, .long 0, .long 0, .long 0, .int 0, .ref h0_39, .ref h0_40, .int 0, .ref h0_42, .int 0, .ref h0_44, .ref h0_45, .int 0, .int 0, .int 0, .int 0, .int 0, .int 0])), (h0_2, .inl (cI, 35942, .inl mrow))]) rfl (fun hP hD hS => ?_))
    obtain ⟨_, rfl, h8⟩ := hv6
    rcases h8 with ⟨rfl, h8⟩ | ⟨rfl, h8⟩
    · refine lv_if_eq (tgt := 41) hx hb dX12_last_26 (by decide) (fun c => absurd c (by decide)) (fun _ => ?_)
      refine lv_iload_n hx hb dX12_last_29 rfl (lv_at hl 3 rfl) ?_
      refine lv_i2l hx hb dX12_last_30 rfl ?_
      refine lv_lconst (v := 0) hx hb dX12_last_31 (by decide) ?_
      refine lv_ldc2 (v := 1000) hx hb hown (hts _ (dmem (j := 5) rfl)) dX12_last_32 ?_
      refine goS (As := [.long (u3).toInt64, .long 0, .long 1000]) (rest := []) (wr := [(h0, .inr (12, [.int 0, .int 0, .ref h0_2, .ref h0_3, .ref h0_4, .ref h0_5, .int 0, .int 0, .int 0, .ref h0_9, .ref h0_10, .ref h0_11, .int 0, .int 0, .int 0, .int 0, .long 0, .int (-1), .int 0, .int 0, .ref h0_20, .int 0, .ref h0_22, .ref h0_23, .int 0, .ref h0_25, .ref h0_26, .int 0, .int 0, .ref h0_29, .ref h0_30, .ref h0_31, .ref h0_32, .int 0, .long 0, .long 0, .long 0, .long 0, .int 0, .ref h0_39, .ref h0_40, .int 0, .ref h0_42, .int 0, .ref h0_44, .ref h0_45, .int 0, .int 0, .int 0, .int 0, .int 0, .int 0])), (h0_2, .inl (cI, 35942, .inl mrow))]) ⟨hx, hb, hml, hown, hts⟩ (c_X12_in l G cI cJ cZ cD cR cT (u3).toInt64 0 1000 u3.toInt 0 1000 _ (Int32.toInt_toInt64 u3) (by decide) (by decide)) (va_cwS 3 hts gv_X12_last_90_X12_in rfl rfl rfl (by decide +kernel) ⟨Nat.le_of_ble_eq_true rfl, Nat.le_of_ble_eq_true rfl⟩) hKK hP hD hS hA [] [0, 1] rfl rfl (by decide +kernel) (by decide +kernel) (by decide +kernel) rfl hl.1 rfl (lv_room (Nat.le_of_ble_eq_true rfl)) dX12_last_35 ⟨Nat.le_of_ble_eq_true rfl, Nat.le_of_ble_eq_true rfl⟩ (fun v10 q9 gq9 H locs hv10 => appW (ws' := [(h0, .inr (12, [.int 0, .int 0, .ref h0_2, .ref h0_3, .ref h0_4, .ref h0_5, .int 0, .int 0, .int 0, .ref h0_9, .ref h0_10, .ref h0_11, .int 0, .int 0, .int 0, .int 0, .long 0, .int (-1), .int 0, .int 0, .ref h0_20, .int 0, .ref h0_22, .ref h0_23, .int 0, .ref h0_25, .ref h0_26, .int 0, .int 0, .ref h0_29, .ref h0_30, .ref h0_31, .ref h0_32, .int 0, .long 0, .long 0, .long 0, .long 0, .int 0, .ref h0_39, .ref h0_40, .int 0, .ref h0_42, .int 0, .ref h0_44, .ref h0_45, .int 0, .int 0, .int 0, .int 0, .int 0, .int 0])), (h0_2, .inl (cI, 35942, .inl mrow))]) rfl (fun hP hD hS => ?_))
      obtain ⟨_, rfl, h12⟩ := hv10
      rcases h12 with ⟨rfl, h12⟩ | ⟨rfl, h12⟩
      · refine lv_if_ne (tgt := 43) hx hb dX12_last_38 (by decide) (fun _ => ?_) (fun c => absurd c (by decide))
        refine lv_aload_n hx hb dX12_last_43 rfl (lv_at hl 0 rfl) ?_
        refine va_get (D := G) (ci := 12) (v := .ref h0_2) (C := RX12) (T := TX12) (N := 52) hx hb hts cm_X12_last_0 hown hK hP 0 rfl rfl 2 (by decide) (hts _ (dmem (j := 6) rfl)) (fun _ h9 => h9) rfl dX12_last_44 ?_
        refine lv_bipush (v := 9) hx hb dX12_last_47 (by decide) ?_
        refine va_iald hx hb hK hP 1 0 rfl rfl (vp_in_iff.mpr (by decide)) dX12_last_49 ?_
        refine lv_topi (fun x13 ex13 => ?_)
        obtain rfl : 0 = x13 := (ex13.trans (by first | rfl | decide | (simp [upd, mrow]; done))).symm
        refine lv_i2l (v := 0) hx hb dX12_last_50 (by decide) ?_
        refine lv_lstore (lv' := [(4, .long 0), (0, .ref h0), (1, .int u1), (2, .int 0), (3, .int u3)]) hx hb dX12_last_51 hl (by decide) rfl (fun ls hl => ?_)
        refine lv_iconst (v := 0) hx hb dX12_last_53 (by decide) ?_
        refine lv_istore (lv' := [(6, .int 0), (4, .long 0), (0, .ref h0), (1, .int u1), (2, .int 0), (3, .int u3)]) hx hb dX12_last_54 hl (by decide) rfl (fun ls hl => ?_)
        refine lv_iload hx hb dX12_last_56 (lv_at hl 0 rfl) ?_
        refine lv_sipush (v := 400) hx hb dX12_last_58 (by decide) ?_
        refine lv_icmp_ge (tgt := 101) hx hb dX12_last_61 (by decide) (fun c => absurd c (by decide)) (fun _ => ?_)
        refine lv_lload hx hb dX12_last_64 (lv_at hl 1 rfl) ?_
        refine lv_iload_n hx hb dX12_last_66 rfl (lv_at hl 3 rfl) ?_
        refine lv_i2l hx hb dX12_last_67 rfl ?_
        refine lv_iload_n hx hb dX12_last_68 rfl (lv_at hl 4 rfl) ?_
        refine lv_iload_n hx hb dX12_last_69 rfl (lv_at hl 5 rfl) ?_
        refine lv_iload hx hb dX12_last_70 (lv_at hl 0 rfl) ?_
        refine lv_imul hx hb dX12_last_72 ?_
        refine lv_topi (fun x14 ex14 => ?_)
        obtain rfl : 0 = x14 := (ex14.trans (by simp)).symm
        refine lv_iadd hx hb dX12_last_73 ?_
        refine lv_topi (fun x15 ex15 => ?_)
        obtain rfl : 0 = x15 := (ex15.trans (by decide)).symm
        refine lv_i2l (v := 0) hx hb dX12_last_74 (by decide) ?_
        refine lv_lmul hx hb dX12_last_75 ?_
        refine lv_topl (fun x16 ex16 => ?_)
        obtain rfl : 0 = x16 := (ex16.trans (by simp)).symm
        refine W.lcmp hx hb dX12_last_76 ?_
        refine lv_topi (fun x17 ex17 => ?_)
        obtain rfl : 0 = x17 := (ex17.trans (by decide)).symm
        refine lv_if_lt (tgt := 101) hx hb dX12_last_77 (by decide) (fun c => absurd c (by decide)) (fun _ => ?_)
        refine lv_lload hx hb dX12_last_80 (lv_at hl 1 rfl) ?_
        refine lv_iload_n hx hb dX12_last_82 rfl (lv_at hl 3 rfl) ?_
        refine lv_i2l hx hb dX12_last_83 rfl ?_
        refine lv_iload_n hx hb dX12_last_84 rfl (lv_at hl 4 rfl) ?_
        refine lv_iload_n hx hb dX12_last_85 rfl (lv_at hl 5 rfl) ?_
        refine lv_iload hx hb dX12_last_86 (lv_at hl 0 rfl) ?_
        refine lv_imul hx hb dX12_last_88 ?_
        refine lv_topi (fun x18 ex18 => ?_)
        obtain rfl : 0 = x18 := (ex18.trans (by simp)).symm
        refine lv_iadd hx hb dX12_last_89 ?_
        refine lv_topi (fun x19 ex19 => ?_)
        obtain rfl : 0 = x19 := (ex19.trans (by decide)).symm
        refine lv_i2l (v := 0) hx hb dX12_last_90 (by decide) ?_
        refine lv_lmul hx hb dX12_last_91 ?_
        refine lv_topl (fun x20 ex20 => ?_)
        obtain rfl : 0 = x20 := (ex20.trans (by simp)).symm
        refine lv_lsub hx hb dX12_last_92 ?_
        refine lv_topl (fun x21 ex21 => ?_)
        obtain rfl : 0 = x21 := (ex21.trans (by decide)).symm
        refine lv_lstore (lv' := [(4, .long 0), (6, .int 0), (0, .ref h0), (1, .int u1), (2, .int 0), (3, .int u3)]) hx hb dX12_last_93 hl (by decide) rfl (fun ls hl => ?_)
        refine lv_iinc (v := 1) (lv' := [(6, .int 1), (4, .long 0), (0, .ref h0), (1, .int u1), (2, .int 0), (3, .int u3)]) hx hb dX12_last_95 hl (k := 1) rfl (by decide) (by decide) rfl (fun ls hl => ?_)
        refine lv_goto (tgt := 56) hx hb dX12_last_98 (by decide) ?_
        refine lv_iload hx hb dX12_last_56 (lv_at hl 0 rfl) ?_
        refine lv_sipush (v := 400) hx hb dX12_last_58 (by decide) ?_
        refine lv_icmp_ge (tgt := 101) hx hb dX12_last_61 (by decide) (fun c => absurd c (by decide)) (fun _ => ?_)
        refine lv_lload hx hb dX12_last_64 (lv_at hl 1 rfl) ?_
        refine lv_iload_n hx hb dX12_last_66 rfl (lv_at hl 3 rfl) ?_
        refine lv_i2l hx hb dX12_last_67 rfl ?_
        refine lv_iload_n hx hb dX12_last_68 rfl (lv_at hl 4 rfl) ?_
        refine lv_iload_n hx hb dX12_last_69 rfl (lv_at hl 5 rfl) ?_
        refine lv_iload hx hb dX12_last_70 (lv_at hl 0 rfl) ?_
        refine lv_imul hx hb dX12_last_72 ?_
        refine lv_topi (fun x22 ex22 => ?_)
        obtain rfl : u3 = x22 := (ex22.trans (by simp)).symm
        refine lv_iadd hx hb dX12_last_73 ?_
        refine lv_topi (fun x23 ex23 => ?_)
        obtain rfl : u3 = x23 := (ex23.trans (by simp)).symm
        refine lv_i2l hx hb dX12_last_74 rfl ?_
        refine lv_lmul hx hb dX12_last_75 ?_
        refine lv_topl (fun x24 ex24 => ?_)
        have fx24 : 1 ≤ x24.toInt ∧ x24.toInt ≤ 10000000 := by rw [ex24]; exact mul64 (show Int64.toInt ((u1).toInt64) = u1.toInt from (Int32.toInt_toInt64 u1)) (show Int64.toInt ((u3).toInt64) = u3.toInt from (Int32.toInt_toInt64 u3)) (by omega) (by omega) (by omega) (by omega)
        refine W.lcmp hx hb dX12_last_76 ?_
        rcases lcmp_cases (0) (x24) with ⟨h25, fh25⟩ | ⟨h25, fh25⟩ | ⟨h25, fh25⟩ <;> rw [h25]
        · have f26 : (x24.toInt : Int) < 0 := by have h1 := (show Int64.toInt (0) = 0 from (by decide)); have h2 := (rfl : Int64.toInt (x24) = x24.toInt); omega
          exfalso; omega
        · have f27 : (0 : Int) = x24.toInt := by have h1 := (show Int64.toInt (0) = 0 from (by decide)); have h2 := (rfl : Int64.toInt (x24) = x24.toInt); omega
          exfalso; omega
        · have f28 : (0 : Int) < x24.toInt := by have h1 := (show Int64.toInt (0) = 0 from (by decide)); have h2 := (rfl : Int64.toInt (x24) = x24.toInt); omega
          refine lv_if_lt (tgt := 101) hx hb dX12_last_77 (by decide) (fun _ => ?_) (fun c => absurd c (by decide))
          refine lv_iload hx hb dX12_last_101 (lv_at hl 0 rfl) ?_
          exact retI hx hb hr hlocks ⟨_, rfl, by have hz0 : (0 : Int32).toInt = 0 := rfl; have hz1 : (1 : Int32).toInt = 1 := rfl; unfold F_last; (repeat' split) <;> first | rfl | (exfalso; omega)⟩ hP hD hS (fun _ => 0) (fun _ _ => 0) [] (by decide +kernel) rfl dX12_last_103
      · refine lv_if_ne (tgt := 43) hx hb dX12_last_38 (by decide) (fun c => absurd c (by decide)) (fun _ => ?_)
        refine lv_iconst (v := (-1)) hx hb dX12_last_41 (by decide) ?_
        exact retI hx hb hr hlocks ⟨_, rfl, by have hz0 : (0 : Int32).toInt = 0 := rfl; have hz1 : (1 : Int32).toInt = 1 := rfl; unfold F_last; (repeat' split) <;> first | rfl | (exfalso; omega)⟩ hP hD hS (fun _ => 0) (fun _ _ => 0) [] (by decide +kernel) rfl dX12_last_42
    · exfalso; omega
  · refine lv_if_eq (tgt := 41) hx hb dX12_last_14 (by decide) (fun _ => ?_) (fun c => absurd c (by decide))
    refine lv_iconst (v := (-1)) hx hb dX12_last_41 (by decide) ?_
    exact retI hx hb hr hlocks ⟨_, rfl, by have hz0 : (0 : Int32).toInt = 0 := rfl; have hz1 : (1 : Int32).toInt = 1 := rfl; unfold F_last; (repeat' split) <;> first | rfl | (exfalso; omega)⟩ hP hD hS (fun _ => 0) (fun _ _ => 0) [] (by decide +kernel) rfl dX12_last_42

set_option maxHeartbeats 4000000 in
set_option maxRecDepth 100000 in
theorem c_X12_last_C (l : Launch) (G : va_G) (cI cJ cZ cD cR cT : ClassId) (h0 : Nat) (u1 : Int32) (u2 : Int32) (u3 : Int32) (h0_2 : Nat) (h0_3 : Nat) (h0_4 : Nat) (h0_5 : Nat) (h0_9 : Nat) (h0_10 : Nat) (h0_11 : Nat) (h0_20 : Nat) (h0_22 : Nat) (h0_23 : Nat) (h0_25 : Nat) (h0_26 : Nat) (h0_29 : Nat) (h0_30 : Nat) (h0_31 : Nat) (h0_32 : Nat) (h0_39 : Nat) (h0_40 : Nat) (h0_42 : Nat) (h0_44 : Nat) (h0_45 : Nat) (sz : Nat) (h2 : ¬ u2.toInt = 0) : Met l yX12_last v_X12_last ({ frames := 12, cells := 0, slots := 0, locals := 900 }) (va_Pc [.ref h0, .int u1, .int u2, .int u3] (PreW G (tys6 cI cJ cZ cD cR cT) [(h0, .inr (12, [.int 0, .int 0, .ref h0_2, .ref h0_3, .ref h0_4, .ref h0_5, .int 0, .int 0, .int 0, .ref h0_9, .ref h0_10, .ref h0_11, .int 0, .int 0, .int 0, .int 0, .long 0, .int (-1), .int 0, .int 0, .ref h0_20, .int 0, .ref h0_22, .ref h0_23, .int 0, .ref h0_25, .ref h0_26, .int 0, .int 0, .ref h0_29, .ref h0_30, .ref h0_31, .ref h0_32, .int 0, .long 0, .long 0, .long 0, .long 0, .int 0, .ref h0_39, .ref h0_40, .int 0, .ref h0_42, .int 0, .ref h0_44, .ref h0_45, .int 0, .int 0, .int 0, .int 0, .int 0, .int 0])), (h0_2, .inl (cI, 35942, .inl mrow))] sz)) (QW (RI (fun r => r = F_last u1 u2 u3)) G (va_A [(h0, .inr (12, [.int 0, .int 0, .ref h0_2, .ref h0_3, .ref h0_4, .ref h0_5, .int 0, .int 0, .int 0, .ref h0_9, .ref h0_10, .ref h0_11, .int 0, .int 0, .int 0, .int 0, .long 0, .int (-1), .int 0, .int 0, .ref h0_20, .int 0, .ref h0_22, .ref h0_23, .int 0, .ref h0_25, .ref h0_26, .int 0, .int 0, .ref h0_29, .ref h0_30, .ref h0_31, .ref h0_32, .int 0, .long 0, .long 0, .long 0, .long 0, .int 0, .ref h0_39, .ref h0_40, .int 0, .ref h0_42, .int 0, .ref h0_44, .ref h0_45, .int 0, .int 0, .int 0, .int 0, .int 0, .int 0])), (h0_2, .inl (cI, 35942, .inl mrow))] sz) (fun q g => [])) 0 0 (va_A [(h0, .inr (12, [.int 0, .int 0, .ref h0_2, .ref h0_3, .ref h0_4, .ref h0_5, .int 0, .int 0, .int 0, .ref h0_9, .ref h0_10, .ref h0_11, .int 0, .int 0, .int 0, .int 0, .long 0, .int (-1), .int 0, .int 0, .ref h0_20, .int 0, .ref h0_22, .ref h0_23, .int 0, .ref h0_25, .ref h0_26, .int 0, .int 0, .ref h0_29, .ref h0_30, .ref h0_31, .ref h0_32, .int 0, .long 0, .long 0, .long 0, .long 0, .int 0, .ref h0_39, .ref h0_40, .int 0, .ref h0_42, .int 0, .ref h0_44, .ref h0_45, .int 0, .int 0, .int 0, .int 0, .int 0, .int 0])), (h0_2, .inl (cI, 35942, .inl mrow))] sz) := by
  refine metW (cc := cX12_last) (maxL := 7) (ret := (some .int)) (by decide) rfl (Nat.le_of_ble_eq_true rfl) ?_
  intro p e s m below meth c A ls hx hb hr hml hown hts hlocks hin hKK hP hD hA hS hl
  have hK := hKK.1
  have hown : s.vm.findClass RX12 = some m.cls := hown
  have hl : lv_has ls 7 [(0, .ref h0), (1, .int u1), (2, .int u2), (3, .int u3)] := hl
  have hP : va_P G vwCl [(h0, .inr (12, [.int 0, .int 0, .ref h0_2, .ref h0_3, .ref h0_4, .ref h0_5, .int 0, .int 0, .int 0, .ref h0_9, .ref h0_10, .ref h0_11, .int 0, .int 0, .int 0, .int 0, .long 0, .int (-1), .int 0, .int 0, .ref h0_20, .int 0, .ref h0_22, .ref h0_23, .int 0, .ref h0_25, .ref h0_26, .int 0, .int 0, .ref h0_29, .ref h0_30, .ref h0_31, .ref h0_32, .int 0, .long 0, .long 0, .long 0, .long 0, .int 0, .ref h0_39, .ref h0_40, .int 0, .ref h0_42, .int 0, .ref h0_44, .ref h0_45, .int 0, .int 0, .int 0, .int 0, .int 0, .int 0])), (h0_2, .inl (cI, 35942, .inl mrow))] s.heap := hP
  have hD : va_D A [(h0, .inr (12, [.int 0, .int 0, .ref h0_2, .ref h0_3, .ref h0_4, .ref h0_5, .int 0, .int 0, .int 0, .ref h0_9, .ref h0_10, .ref h0_11, .int 0, .int 0, .int 0, .int 0, .long 0, .int (-1), .int 0, .int 0, .ref h0_20, .int 0, .ref h0_22, .ref h0_23, .int 0, .ref h0_25, .ref h0_26, .int 0, .int 0, .ref h0_29, .ref h0_30, .ref h0_31, .ref h0_32, .int 0, .long 0, .long 0, .long 0, .long 0, .int 0, .ref h0_39, .ref h0_40, .int 0, .ref h0_42, .int 0, .ref h0_44, .ref h0_45, .int 0, .int 0, .int 0, .int 0, .int 0, .int 0])), (h0_2, .inl (cI, 35942, .inl mrow))] := hD
  refine lv_aload_n hx hb dX12_last_0 rfl (lv_at hl 0 rfl) ?_
  refine lv_iconst (v := 0) hx hb dX12_last_1 (by decide) ?_
  refine va_put (D := G) (ci := 12) (v := .int 0) (ty := .int) (C := RX12) (T := TX12) (N := 52) hx hb hts cm_X12_last_0 tyX12 tyX12_ok nmX12 hown hK hP hD hS 0 rfl rfl 0 (by decide) (hts _ (dmem (j := 0) rfl)) (fun _ h9 => h9) rfl (by decide +kernel) rfl rfl (Nat.le_of_ble_eq_true rfl) dX12_last_2 (fun H locs => setW (ws' := [(h0, .inr (12, [.int 0, .int 0, .ref h0_2, .ref h0_3, .ref h0_4, .ref h0_5, .int 0, .int 0, .int 0, .ref h0_9, .ref h0_10, .ref h0_11, .int 0, .int 0, .int 0, .int 0, .long 0, .int (-1), .int 0, .int 0, .ref h0_20, .int 0, .ref h0_22, .ref h0_23, .int 0, .ref h0_25, .ref h0_26, .int 0, .int 0, .ref h0_29, .ref h0_30, .ref h0_31, .ref h0_32, .int 0, .long 0, .long 0, .long 0, .long 0, .int 0, .ref h0_39, .ref h0_40, .int 0, .ref h0_42, .int 0, .ref h0_44, .ref h0_45, .int 0, .int 0, .int 0, .int 0, .int 0, .int 0])), (h0_2, .inl (cI, 35942, .inl mrow))]) rfl (fun hP hD hS => ?_))
  refine lv_iload_n hx hb dX12_last_5 rfl (lv_at hl 1 rfl) ?_
  refine lv_i2l hx hb dX12_last_6 rfl ?_
  refine lv_lconst (v := 1) hx hb dX12_last_7 (by decide) ?_
  refine lv_ldc2 (v := 10000) hx hb hown (hts _ (dmem (j := 1) rfl)) dX12_last_8 ?_
  refine goS (As := [.long (u1).toInt64, .long 1, .long 10000]) (rest := []) (wr := [(h0, .inr (12, [.int 0, .int 0, .ref h0_2, .ref h0_3, .ref h0_4, .ref h0_5, .int 0, .int 0, .int 0, .ref h0_9, .ref h0_10, .ref h0_11, .int 0, .int 0, .int 0, .int 0, .long 0, .int (-1), .int 0, .int 0, .ref h0_20, .int 0, .ref h0_22, .ref h0_23, .int 0, .ref h0_25, .ref h0_26, .int 0, .int 0, .ref h0_29, .ref h0_30, .ref h0_31, .ref h0_32, .int 0, .long 0, .long 0, .long 0, .long 0, .int 0, .ref h0_39, .ref h0_40, .int 0, .ref h0_42, .int 0, .ref h0_44, .ref h0_45, .int 0, .int 0, .int 0, .int 0, .int 0, .int 0])), (h0_2, .inl (cI, 35942, .inl mrow))]) ⟨hx, hb, hml, hown, hts⟩ (c_X12_in l G cI cJ cZ cD cR cT (u1).toInt64 1 10000 u1.toInt 1 10000 _ (Int32.toInt_toInt64 u1) (by decide) (by decide)) (va_cwS 3 hts gv_X12_last_90_X12_in rfl rfl rfl (by decide +kernel) ⟨Nat.le_of_ble_eq_true rfl, Nat.le_of_ble_eq_true rfl⟩) hKK hP hD hS hA [] [0, 1] rfl rfl (by decide +kernel) (by decide +kernel) (by decide +kernel) rfl hl.1 rfl (lv_room (Nat.le_of_ble_eq_true rfl)) dX12_last_11 ⟨Nat.le_of_ble_eq_true rfl, Nat.le_of_ble_eq_true rfl⟩ (fun v2 q1 gq1 H locs hv2 => appW (ws' := [(h0, .inr (12, [.int 0, .int 0, .ref h0_2, .ref h0_3, .ref h0_4, .ref h0_5, .int 0, .int 0, .int 0, .ref h0_9, .ref h0_10, .ref h0_11, .int 0, .int 0, .int 0, .int 0, .long 0, .int (-1), .int 0, .int 0, .ref h0_20, .int 0, .ref h0_22, .ref h0_23, .int 0, .ref h0_25, .ref h0_26, .int 0, .int 0, .ref h0_29, .ref h0_30, .ref h0_31, .ref h0_32, .int 0, .long 0, .long 0, .long 0, .long 0, .int 0, .ref h0_39, .ref h0_40, .int 0, .ref h0_42, .int 0, .ref h0_44, .ref h0_45, .int 0, .int 0, .int 0, .int 0, .int 0, .int 0])), (h0_2, .inl (cI, 35942, .inl mrow))]) rfl (fun hP hD hS => ?_))
  obtain ⟨_, rfl, h4⟩ := hv2
  rcases h4 with ⟨rfl, h4⟩ | ⟨rfl, h4⟩
  · refine lv_if_eq (tgt := 41) hx hb dX12_last_14 (by decide) (fun c => absurd c (by decide)) (fun _ => ?_)
    refine lv_iload_n hx hb dX12_last_17 rfl (lv_at hl 2 rfl) ?_
    refine lv_i2l hx hb dX12_last_18 rfl ?_
    refine lv_lconst (v := 0) hx hb dX12_last_19 (by decide) ?_
    refine lv_ldc2 (v := 1000) hx hb hown (hts _ (dmem (j := 5) rfl)) dX12_last_20 ?_
    refine goS (As := [.long (u2).toInt64, .long 0, .long 1000]) (rest := []) (wr := [(h0, .inr (12, [.int 0, .int 0, .ref h0_2, .ref h0_3, .ref h0_4, .ref h0_5, .int 0, .int 0, .int 0, .ref h0_9, .ref h0_10, .ref h0_11, .int 0, .int 0, .int 0, .int 0, .long 0, .int (-1), .int 0, .int 0, .ref h0_20, .int 0, .ref h0_22, .ref h0_23, .int 0, .ref h0_25, .ref h0_26, .int 0, .int 0, .ref h0_29, .ref h0_30, .ref h0_31, .ref h0_32, .int 0, .long 0, .long 0, .long 0, .long 0, .int 0, .ref h0_39, .ref h0_40, .int 0, .ref h0_42, .int 0, .ref h0_44, .ref h0_45, .int 0, .int 0, .int 0, .int 0, .int 0, .int 0])), (h0_2, .inl (cI, 35942, .inl mrow))]) ⟨hx, hb, hml, hown, hts⟩ (c_X12_in l G cI cJ cZ cD cR cT (u2).toInt64 0 1000 u2.toInt 0 1000 _ (Int32.toInt_toInt64 u2) (by decide) (by decide)) (va_cwS 3 hts gv_X12_last_90_X12_in rfl rfl rfl (by decide +kernel) ⟨Nat.le_of_ble_eq_true rfl, Nat.le_of_ble_eq_true rfl⟩) hKK hP hD hS hA [] [0, 1] rfl rfl (by decide +kernel) (by decide +kernel) (by decide +kernel) rfl hl.1 rfl (lv_room (Nat.le_of_ble_eq_true rfl)) dX12_last_23 ⟨Nat.le_of_ble_eq_true rfl, Nat.le_of_ble_eq_true rfl⟩ (fun v6 q5 gq5 H locs hv6 => appW (ws' := [(h0, .inr (12, [.int 0, .int 0, .ref h0_2, .ref h0_3, .ref h0_4, .ref h0_5, .int 0, .int 0, .int 0, .ref h0_9, .ref h0_10, .ref h0_11, .int 0, .int 0, .int 0, .int 0, .long 0, .int (-1), .int 0, .int 0, .ref h0_20, .int 0, .ref h0_22, .ref h0_23, .int 0, .ref h0_25, .ref h0_26, .int 0, .int 0, .ref h0_29, .ref h0_30, .ref h0_31, .ref h0_32, .int 0, .long 0, .long 0, .long 0, .long 0, .int 0, .ref h0_39, .ref h0_40, .int 0, .ref h0_42, .int 0, .ref h0_44, .ref h0_45, .int 0, .int 0, .int 0, .int 0, .int 0, .int 0])), (h0_2, .inl (cI, 35942, .inl mrow))]) rfl (fun hP hD hS => ?_))
    obtain ⟨_, rfl, h8⟩ := hv6
    rcases h8 with ⟨rfl, h8⟩ | ⟨rfl, h8⟩
    · refine lv_if_eq (tgt := 41) hx hb dX12_last_26 (by decide) (fun c => absurd c (by decide)) (fun _ => ?_)
      refine lv_iload_n hx hb dX12_last_29 rfl (lv_at hl 3 rfl) ?_
      refine lv_i2l hx hb dX12_last_30 rfl ?_
      refine lv_lconst (v := 0) hx hb dX12_last_31 (by decide) ?_
      refine lv_ldc2 (v := 1000) hx hb hown (hts _ (dmem (j := 5) rfl)) dX12_last_32 ?_
      refine goS (As := [.long (u3).toInt64, .long 0, .long 1000]) (rest := []) (wr := [(h0, .inr (12, [.int 0, .int 0, .ref h0_2, .ref h0_3, .ref h0_4, .ref h0_5, .int 0, .int 0, .int 0, .ref h0_9, .ref h0_10, .ref h0_11, .int 0, .int 0, .int 0, .int 0, .long 0, .int (-1), .int 0, .int 0, .ref h0_20, .int 0, .ref h0_22, .ref h0_23, .int 0, .ref h0_25, .ref h0_26, .int 0, .int 0, .ref h0_29, .ref h0_30, .ref h0_31, .ref h0_32, .int 0, .long 0, .long 0, .long 0, .long 0, .int 0, .ref h0_39, .ref h0_40, .int 0, .ref h0_42, .int 0, .ref h0_44, .ref h0_45, .int 0, .int 0, .int 0, .int 0, .int 0, .int 0])), (h0_2, .inl (cI, 35942, .inl mrow))]) ⟨hx, hb, hml, hown, hts⟩ (c_X12_in l G cI cJ cZ cD cR cT (u3).toInt64 0 1000 u3.toInt 0 1000 _ (Int32.toInt_toInt64 u3) (by decide) (by decide)) (va_cwS 3 hts gv_X12_last_90_X12_in rfl rfl rfl (by decide +kernel) ⟨Nat.le_of_ble_eq_true rfl, Nat.le_of_ble_eq_true rfl⟩) hKK hP hD hS hA [] [0, 1] rfl rfl (by decide +kernel) (by decide +kernel) (by decide +kernel) rfl hl.1 rfl (lv_room (Nat.le_of_ble_eq_true rfl)) dX12_last_35 ⟨Nat.le_of_ble_eq_true rfl, Nat.le_of_ble_eq_true rfl⟩ (fun v10 q9 gq9 H locs hv10 => appW (ws' := [(h0, .inr (12, [.int 0, .int 0, .ref h0_2, .ref h0_3, .ref h0_4, .ref h0_5, .int 0, .int 0, .int 0, .ref h0_9, .ref h0_10, .ref h0_11, .int 0, .int 0, .int 0, .int 0, .long 0, .int (-1), .int 0, .int 0, .ref h0_20, .int 0, .ref h0_22, .ref h0_23, .int 0, .ref h0_25, .ref h0_26, .int 0, .int 0, .ref h0_29, .ref h0_30, .ref h0_31, .ref h0_32, .int 0, .long 0, .long 0, .long 0, .long 0, .int 0, .ref h0_39, .ref h0_40, .int 0, .ref h0_42, .int 0, .ref h0_44, .ref h0_45, .int 0, .int 0, .int 0, .int 0, .int 0, .int 0])), (h0_2, .inl (cI, 35942, .inl mrow))]) rfl (fun hP hD hS => ?_))
      obtain ⟨_, rfl, h12⟩ := hv10
      rcases h12 with ⟨rfl, h12⟩ | ⟨rfl, h12⟩
      · refine lv_if_ne (tgt := 43) hx hb dX12_last_38 (by decide) (fun _ => ?_) (fun c => absurd c (by decide))
        refine lv_aload_n hx hb dX12_last_43 rfl (lv_at hl 0 rfl) ?_
        refine va_get (D := G) (ci := 12) (v := .ref h0_2) (C := RX12) (T := TX12) (N := 52) hx hb hts cm_X12_last_0 hown hK hP 0 rfl rfl 2 (by decide) (hts _ (dmem (j := 6) rfl)) (fun _ h9 => h9) rfl dX12_last_44 ?_
        refine lv_bipush (v := 9) hx hb dX12_last_47 (by decide) ?_
        refine va_iald hx hb hK hP 1 0 rfl rfl (vp_in_iff.mpr (by decide)) dX12_last_49 ?_
        refine lv_topi (fun x13 ex13 => ?_)
        obtain rfl : 0 = x13 := (ex13.trans (by first | rfl | decide | (simp [upd, mrow]; done))).symm
        refine lv_i2l (v := 0) hx hb dX12_last_50 (by decide) ?_
        refine lv_lstore (lv' := [(4, .long 0), (0, .ref h0), (1, .int u1), (2, .int u2), (3, .int u3)]) hx hb dX12_last_51 hl (by decide) rfl (fun ls hl => ?_)
        refine lv_iconst (v := 0) hx hb dX12_last_53 (by decide) ?_
        refine lv_istore (lv' := [(6, .int 0), (4, .long 0), (0, .ref h0), (1, .int u1), (2, .int u2), (3, .int u3)]) hx hb dX12_last_54 hl (by decide) rfl (fun ls hl => ?_)
        refine lv_iload hx hb dX12_last_56 (lv_at hl 0 rfl) ?_
        refine lv_sipush (v := 400) hx hb dX12_last_58 (by decide) ?_
        refine lv_icmp_ge (tgt := 101) hx hb dX12_last_61 (by decide) (fun c => absurd c (by decide)) (fun _ => ?_)
        refine lv_lload hx hb dX12_last_64 (lv_at hl 1 rfl) ?_
        refine lv_iload_n hx hb dX12_last_66 rfl (lv_at hl 3 rfl) ?_
        refine lv_i2l hx hb dX12_last_67 rfl ?_
        refine lv_iload_n hx hb dX12_last_68 rfl (lv_at hl 4 rfl) ?_
        refine lv_iload_n hx hb dX12_last_69 rfl (lv_at hl 5 rfl) ?_
        refine lv_iload hx hb dX12_last_70 (lv_at hl 0 rfl) ?_
        refine lv_imul hx hb dX12_last_72 ?_
        refine lv_topi (fun x14 ex14 => ?_)
        obtain rfl : 0 = x14 := (ex14.trans (by simp)).symm
        refine lv_iadd hx hb dX12_last_73 ?_
        refine lv_topi (fun x15 ex15 => ?_)
        obtain rfl : u2 = x15 := (ex15.trans (by simp)).symm
        refine lv_i2l hx hb dX12_last_74 rfl ?_
        refine lv_lmul hx hb dX12_last_75 ?_
        refine lv_topl (fun x16 ex16 => ?_)
        have fx16 : 1 ≤ x16.toInt ∧ x16.toInt ≤ 10000000 := by rw [ex16]; exact mul64 (show Int64.toInt ((u1).toInt64) = u1.toInt from (Int32.toInt_toInt64 u1)) (show Int64.toInt ((u2).toInt64) = u2.toInt from (Int32.toInt_toInt64 u2)) (by omega) (by omega) (by omega) (by omega)
        refine W.lcmp hx hb dX12_last_76 ?_
        rcases lcmp_cases (0) (x16) with ⟨h17, fh17⟩ | ⟨h17, fh17⟩ | ⟨h17, fh17⟩ <;> rw [h17]
        · have f18 : (x16.toInt : Int) < 0 := by have h1 := (show Int64.toInt (0) = 0 from (by decide)); have h2 := (rfl : Int64.toInt (x16) = x16.toInt); omega
          exfalso; omega
        · have f19 : (0 : Int) = x16.toInt := by have h1 := (show Int64.toInt (0) = 0 from (by decide)); have h2 := (rfl : Int64.toInt (x16) = x16.toInt); omega
          exfalso; omega
        · have f20 : (0 : Int) < x16.toInt := by have h1 := (show Int64.toInt (0) = 0 from (by decide)); have h2 := (rfl : Int64.toInt (x16) = x16.toInt); omega
          refine lv_if_lt (tgt := 101) hx hb dX12_last_77 (by decide) (fun _ => ?_) (fun c => absurd c (by decide))
          refine lv_iload hx hb dX12_last_101 (lv_at hl 0 rfl) ?_
          exact retI hx hb hr hlocks ⟨_, rfl, by have hz0 : (0 : Int32).toInt = 0 := rfl; have hz1 : (1 : Int32).toInt = 1 := rfl; unfold F_last; (repeat' split) <;> first | rfl | (exfalso; omega)⟩ hP hD hS (fun _ => 0) (fun _ _ => 0) [] (by decide +kernel) rfl dX12_last_103
      · refine lv_if_ne (tgt := 43) hx hb dX12_last_38 (by decide) (fun c => absurd c (by decide)) (fun _ => ?_)
        refine lv_iconst (v := (-1)) hx hb dX12_last_41 (by decide) ?_
        exact retI hx hb hr hlocks ⟨_, rfl, by have hz0 : (0 : Int32).toInt = 0 := rfl; have hz1 : (1 : Int32).toInt = 1 := rfl; unfold F_last; (repeat' split) <;> first | rfl | (exfalso; omega)⟩ hP hD hS (fun _ => 0) (fun _ _ => 0) [] (by decide +kernel) rfl dX12_last_42
    · refine lv_if_eq (tgt := 41) hx hb dX12_last_26 (by decide) (fun _ => ?_) (fun c => absurd c (by decide))
      refine lv_iconst (v := (-1)) hx hb dX12_last_41 (by decide) ?_
      exact retI hx hb hr hlocks ⟨_, rfl, by have hz0 : (0 : Int32).toInt = 0 := rfl; have hz1 : (1 : Int32).toInt = 1 := rfl; unfold F_last; (repeat' split) <;> first | rfl | (exfalso; omega)⟩ hP hD hS (fun _ => 0) (fun _ _ => 0) [] (by decide +kernel) rfl dX12_last_42
  · refine lv_if_eq (tgt := 41) hx hb dX12_last_14 (by decide) (fun _ => ?_) (fun c => absurd c (by decide))
    refine lv_iconst (v := (-1)) hx hb dX12_last_41 (by decide) ?_
    exact retI hx hb hr hlocks ⟨_, rfl, by have hz0 : (0 : Int32).toInt = 0 := rfl; have hz1 : (1 : Int32).toInt = 1 := rfl; unfold F_last; (repeat' split) <;> first | rfl | (exfalso; omega)⟩ hP hD hS (fun _ => 0) (fun _ _ => 0) [] (by decide +kernel) rfl dX12_last_42
set_option maxHeartbeats 4000000 in
set_option maxRecDepth 100000 in
theorem c_X12_last (l : Launch) (G : va_G) (cI cJ cZ cD cR cT : ClassId) (h0 : Nat) (u1 : Int32) (u2 : Int32) (u3 : Int32) (h0_2 : Nat) (h0_3 : Nat) (h0_4 : Nat) (h0_5 : Nat) (h0_9 : Nat) (h0_10 : Nat) (h0_11 : Nat) (h0_20 : Nat) (h0_22 : Nat) (h0_23 : Nat) (h0_25 : Nat) (h0_26 : Nat) (h0_29 : Nat) (h0_30 : Nat) (h0_31 : Nat) (h0_32 : Nat) (h0_39 : Nat) (h0_40 : Nat) (h0_42 : Nat) (h0_44 : Nat) (h0_45 : Nat) (sz : Nat) : Met l yX12_last v_X12_last ({ frames := 12, cells := 0, slots := 0, locals := 900 }) (va_Pc [.ref h0, .int u1, .int u2, .int u3] (PreW G (tys6 cI cJ cZ cD cR cT) [(h0, .inr (12, [.int 0, .int 0, .ref h0_2, .ref h0_3, .ref h0_4, .ref h0_5, .int 0, .int 0, .int 0, .ref h0_9, .ref h0_10, .ref h0_11, .int 0, .int 0, .int 0, .int 0, .long 0, .int (-1), .int 0, .int 0, .ref h0_20, .int 0, .ref h0_22, .ref h0_23, .int 0, .ref h0_25, .ref h0_26, .int 0, .int 0, .ref h0_29, .ref h0_30, .ref h0_31, .ref h0_32, .int 0, .long 0, .long 0, .long 0, .long 0, .int 0, .ref h0_39, .ref h0_40, .int 0, .ref h0_42, .int 0, .ref h0_44, .ref h0_45, .int 0, .int 0, .int 0, .int 0, .int 0, .int 0])), (h0_2, .inl (cI, 35942, .inl mrow))] sz)) (QW (RI (fun r => r = F_last u1 u2 u3)) G (va_A [(h0, .inr (12, [.int 0, .int 0, .ref h0_2, .ref h0_3, .ref h0_4, .ref h0_5, .int 0, .int 0, .int 0, .ref h0_9, .ref h0_10, .ref h0_11, .int 0, .int 0, .int 0, .int 0, .long 0, .int (-1), .int 0, .int 0, .ref h0_20, .int 0, .ref h0_22, .ref h0_23, .int 0, .ref h0_25, .ref h0_26, .int 0, .int 0, .ref h0_29, .ref h0_30, .ref h0_31, .ref h0_32, .int 0, .long 0, .long 0, .long 0, .long 0, .int 0, .ref h0_39, .ref h0_40, .int 0, .ref h0_42, .int 0, .ref h0_44, .ref h0_45, .int 0, .int 0, .int 0, .int 0, .int 0, .int 0])), (h0_2, .inl (cI, 35942, .inl mrow))] sz) (fun q g => [])) 0 0 (va_A [(h0, .inr (12, [.int 0, .int 0, .ref h0_2, .ref h0_3, .ref h0_4, .ref h0_5, .int 0, .int 0, .int 0, .ref h0_9, .ref h0_10, .ref h0_11, .int 0, .int 0, .int 0, .int 0, .long 0, .int (-1), .int 0, .int 0, .ref h0_20, .int 0, .ref h0_22, .ref h0_23, .int 0, .ref h0_25, .ref h0_26, .int 0, .int 0, .ref h0_29, .ref h0_30, .ref h0_31, .ref h0_32, .int 0, .long 0, .long 0, .long 0, .long 0, .int 0, .ref h0_39, .ref h0_40, .int 0, .ref h0_42, .int 0, .ref h0_44, .ref h0_45, .int 0, .int 0, .int 0, .int 0, .int 0, .int 0])), (h0_2, .inl (cI, 35942, .inl mrow))] sz) := by
  by_cases h2 : u2.toInt = 0
  · have e2 : u2 = 0 := Int32.toInt_inj.mp (h2.trans rfl)
    subst e2
    by_cases h3 : u3.toInt = 0
    · have e3 : u3 = 0 := Int32.toInt_inj.mp (h3.trans rfl)
      subst e3
      exact c_X12_last_A l G cI cJ cZ cD cR cT h0 u1 h0_2 h0_3 h0_4 h0_5 h0_9 h0_10 h0_11 h0_20 h0_22 h0_23 h0_25 h0_26 h0_29 h0_30 h0_31 h0_32 h0_39 h0_40 h0_42 h0_44 h0_45 sz
    · exact c_X12_last_B l G cI cJ cZ cD cR cT h0 u1 u3 h0_2 h0_3 h0_4 h0_5 h0_9 h0_10 h0_11 h0_20 h0_22 h0_23 h0_25 h0_26 h0_29 h0_30 h0_31 h0_32 h0_39 h0_40 h0_42 h0_44 h0_45 sz h3
  · exact c_X12_last_C l G cI cJ cZ cD cR cT h0 u1 u2 u3 h0_2 h0_3 h0_4 h0_5 h0_9 h0_10 h0_11 h0_20 h0_22 h0_23 h0_25 h0_26 h0_29 h0_30 h0_31 h0_32 h0_39 h0_40 h0_42 h0_44 h0_45 sz h2
